/-! the class, written by wip/c1.py: 65.rules -/
/-- the conditions' fields -/
def A_K (σ : P_A) (sz : Int) (C : Int → Nat → Int) : Prop := σ 13 4 = sz ∧ (0 ≤ sz ∧ sz ≤ 12) ∧ ∀ j f, 0 ≤ j → j < sz → f < 4 → σ (15 + j.toNat) f = C j f
def A_KR (sz : Int) (C : Int → Nat → Int) : Prop := ∀ j f, 0 ≤ j → j < sz → f < 4 → 0 ≤ C j f ∧ C j f ≤ 2000
/-- nothing else has changed: the plan's size and its conditions apart -/
def A_kp (σ σ' : P_A) : Prop := ∀ a b, ¬ (a = 13 ∧ b = 4) → ¬ (15 ≤ a ∧ a < 27) → σ' a b = σ a b
theorem A_kp_rf {σ : P_A} : A_kp σ σ := fun _ _ _ _ => rfl
theorem A_kp_tr {σ σ1 σ2 : P_A} (h : A_kp σ σ1) (h2 : A_kp σ1 σ2) : A_kp σ σ2 := fun a b x y => (h2 a b x y).trans (h a b x y)
theorem A_kp_c {σ : P_A} {k f : Nat} {v : Int} (hk : 15 ≤ k ∧ k < 27) : A_kp σ (P_u2 σ k f v) := fun a b _ y => P_u2_ne (fun q => y (by omega))
theorem A_kp_s {σ : P_A} {v : Int} : A_kp σ (P_u2 σ 13 4 v) := fun a b x _ => P_u2_ne x
/-- condition i takes new fields -/
def A_4 (σ : P_A) (k : Nat) (a b c e : Int) : P_A := P_u2 (P_u2 (P_u2 (P_u2 σ k 0 a) k 1 b) k 2 c) k 3 e
theorem A_kp_4 {σ : P_A} {k : Nat} {a b c e : Int} (hk : 15 ≤ k ∧ k < 27) : A_kp σ (A_4 σ k a b c e) := A_kp_tr (A_kp_tr (A_kp_tr (A_kp_c hk) (A_kp_c hk)) (A_kp_c hk)) (A_kp_c hk)
theorem A_4_ne {σ : P_A} {k a' f : Nat} {a b c e : Int} (h : a' ≠ k) : A_4 σ k a b c e a' f = σ a' f := by
  unfold A_4
  rw [P_u2_ne (fun q => h q.1), P_u2_ne (fun q => h q.1), P_u2_ne (fun q => h q.1), P_u2_ne (fun q => h q.1)]
theorem A_4_at {σ : P_A} {k f : Nat} {C : Nat → Int} (hf : f < 4) : A_4 σ k (C 0) (C 1) (C 2) (C 3) k f = C f := by
  match f, hf with
  | 0, _ => unfold A_4; rw [P_u2_ne (by omega), P_u2_ne (by omega), P_u2_ne (by omega), P_u2_at]
  | 1, _ => unfold A_4; rw [P_u2_ne (by omega), P_u2_ne (by omega), P_u2_at]
  | 2, _ => unfold A_4; rw [P_u2_ne (by omega), P_u2_at]
  | 3, _ => unfold A_4; rw [P_u2_at]
  | f + 4, h => exact absurd h (by omega)
theorem A_4_self {σ : P_A} {k : Nat} {C : Nat → Int} : A_4 σ k (C 0) (C 1) (C 2) (C 3) k 0 = C 0 ∧ True := ⟨A_4_at (by omega), trivial⟩

theorem A_K_cg {σ : P_A} {sz : Int} {C C' : Int → Nat → Int} (h : ∀ j f, 0 ≤ j → j < sz → C j f = C' j f) (hK : A_K σ sz C) : A_K σ sz C' := ⟨hK.1, hK.2.1, fun j f h0 h1 h2 => (hK.2.2 j f h0 h1 h2).trans (h j f h0 h1)⟩
theorem A_rmK {σ : P_A} {sz i : Int} {C : Int → Nat → Int} (hK : A_K σ sz C) (h0 : 0 ≤ i) (h1 : i + 1 < sz) : A_K (A_4 σ (15 + i.toNat) (C (i + 1) 0) (C (i + 1) 1) (C (i + 1) 2) (C (i + 1) 3)) sz (fun j f => if j = i then C (i + 1) f else C j f) := by
  have hz := hK.2.1
  refine ⟨(A_4_ne (by omega)).trans hK.1, hK.2.1, fun j f a0 a1 a2 => ?_⟩
  show _ = if j = i then C (i + 1) f else C j f
  by_cases e : j = i
  · subst e
    rw [if_pos rfl]
    exact A_4_at (C := fun f => C (j + 1) f) a2
  · rw [if_neg e, A_4_ne (by omega)]
    exact hK.2.2 j f a0 a1 a2
theorem A_K_sz {σ : P_A} {sz v : Int} {C : Int → Nat → Int} (hK : A_K σ sz C) (h0 : 0 ≤ v) (h1 : v ≤ sz) : A_K (P_u2 σ 13 4 v) v C := by
  have hz := hK.2.1
  exact ⟨P_u2_at, by omega, fun j f a0 a1 a2 => (P_u2_ne (by omega)).trans (hK.2.2 j f a0 (by omega) a2)⟩

theorem s_rcl {w : P_Lw} (hw : P_Cw w) {d : Nat} {Q : P_R → P_A → Prop} {sz : Int} : ∀ (n : Nat) (σ : P_A) (C : Int → Nat → Int) (i : Int), (0 ≤ i ∧ i < sz ∧ sz ≤ 12) → (sz = i + 1 + (n : Nat)) → (A_K σ sz C) → (A_KR sz C) → (∀ σ', A_kp σ σ' → A_K σ' (sz - 1) (fun j f => if j < i then C j f else C (j + 1) f) → Q (.inl none) σ') → P_aw w (d + 2) 61 2 [.ref (w.2.2 13), P_un, P_z i, P_un] [] σ Q := by
  intro n
  induction n with
  | zero =>
    intro σ C i hv0 hv1 hv2 hv3 q
    refine P_aw_op (L' := [.ref (w.2.2 13), P_un, P_z i, P_un]) (st' := [P_z i]) P_i61_2 rfl (show P_aw _ _ _ 3 [.ref (w.2.2 13), P_un, P_z i, P_un] [P_z i] _ _ from ?_)
    refine P_aw_op (L' := [.ref (w.2.2 13), P_un, P_z i, P_un]) (st' := [P_z 1, P_z i]) P_i61_3 rfl (show P_aw _ _ _ 4 [.ref (w.2.2 13), P_un, P_z i, P_un] [P_z 1, P_z i] _ _ from ?_)
    refine P_aw_op (L' := [.ref (w.2.2 13), P_un, P_z i, P_un]) (st' := [P_z (i + 1)]) P_i61_4 P_o_iadd (show P_aw _ _ _ 5 [.ref (w.2.2 13), P_un, P_z i, P_un] [P_z (i + 1)] _ _ from ?_)
    refine P_aw_op (L' := [.ref (w.2.2 13), P_un, P_z i, P_un]) (st' := [.ref (w.2.2 13), P_z (i + 1)]) P_i61_5 rfl (show P_aw _ _ _ 6 [.ref (w.2.2 13), P_un, P_z i, P_un] [.ref (w.2.2 13), P_z (i + 1)] _ _ from ?_)
    have hg1 := hv2.2.1
    refine P_aw_getv P_i61_6 (hw.2.1 13 (by decide)) (hw.s rfl) rfl rfl (hv2.1) (show P_aw _ _ _ 9 [.ref (w.2.2 13), P_un, P_z i, P_un] [P_z sz, P_z (i + 1)] _ _ from ?_)
    refine P_aw_ict P_i61_9 ⟨by omega, by omega⟩ ⟨by omega, by omega⟩ (P_ci_get (by omega)) (show P_aw _ _ _ 50 [.ref (w.2.2 13), P_un, P_z i, P_un] [] _ _ from ?_)
    refine P_aw_op (L' := [.ref (w.2.2 13), P_un, P_z i, P_un]) (st' := [.ref (w.2.2 13)]) P_i61_50 rfl (show P_aw _ _ _ 51 [.ref (w.2.2 13), P_un, P_z i, P_un] [.ref (w.2.2 13)] _ _ from ?_)
    refine P_aw_op (L' := [.ref (w.2.2 13), P_un, P_z i, P_un]) (st' := [.ref (w.2.2 13), .ref (w.2.2 13)]) P_i61_51 rfl (show P_aw _ _ _ 52 [.ref (w.2.2 13), P_un, P_z i, P_un] [.ref (w.2.2 13), .ref (w.2.2 13)] _ _ from ?_)
    have hg2 := hv2.2.1
    refine P_aw_getv P_i61_52 (hw.2.1 13 (by decide)) (hw.s rfl) rfl rfl (hv2.1) (show P_aw _ _ _ 55 [.ref (w.2.2 13), P_un, P_z i, P_un] [P_z sz, .ref (w.2.2 13)] _ _ from ?_)
    refine P_aw_op (L' := [.ref (w.2.2 13), P_un, P_z i, P_un]) (st' := [P_z 1, P_z sz, .ref (w.2.2 13)]) P_i61_55 rfl (show P_aw _ _ _ 56 [.ref (w.2.2 13), P_un, P_z i, P_un] [P_z 1, P_z sz, .ref (w.2.2 13)] _ _ from ?_)
    refine P_aw_op (L' := [.ref (w.2.2 13), P_un, P_z i, P_un]) (st' := [P_z (sz - 1), .ref (w.2.2 13)]) P_i61_56 P_o_isub (show P_aw _ _ _ 57 [.ref (w.2.2 13), P_un, P_z i, P_un] [P_z (sz - 1), .ref (w.2.2 13)] _ _ from ?_)
    refine P_aw_put P_i61_57 (hw.2.1 13 (by decide)) (hw.s rfl) rfl rfl rfl (show P_aw _ _ _ 60 [.ref (w.2.2 13), P_un, P_z i, P_un] [] _ _ from ?_)
    refine P_aw_end P_i61_60 rfl rfl (fun _ => rfl) rfl ?_
    exact q _ A_kp_s (A_K_cg (fun j f h0 h1 => by rw [if_pos (by omega)]) (A_K_sz hv2 (by omega) (by omega)))
  | succ n ih =>
    intro σ C i hv0 hv1 hv2 hv3 q
    refine P_aw_op (L' := [.ref (w.2.2 13), P_un, P_z i, P_un]) (st' := [P_z i]) P_i61_2 rfl (show P_aw _ _ _ 3 [.ref (w.2.2 13), P_un, P_z i, P_un] [P_z i] _ _ from ?_)
    refine P_aw_op (L' := [.ref (w.2.2 13), P_un, P_z i, P_un]) (st' := [P_z 1, P_z i]) P_i61_3 rfl (show P_aw _ _ _ 4 [.ref (w.2.2 13), P_un, P_z i, P_un] [P_z 1, P_z i] _ _ from ?_)
    refine P_aw_op (L' := [.ref (w.2.2 13), P_un, P_z i, P_un]) (st' := [P_z (i + 1)]) P_i61_4 P_o_iadd (show P_aw _ _ _ 5 [.ref (w.2.2 13), P_un, P_z i, P_un] [P_z (i + 1)] _ _ from ?_)
    refine P_aw_op (L' := [.ref (w.2.2 13), P_un, P_z i, P_un]) (st' := [.ref (w.2.2 13), P_z (i + 1)]) P_i61_5 rfl (show P_aw _ _ _ 6 [.ref (w.2.2 13), P_un, P_z i, P_un] [.ref (w.2.2 13), P_z (i + 1)] _ _ from ?_)
    have hg1 := hv2.2.1
    refine P_aw_getv P_i61_6 (hw.2.1 13 (by decide)) (hw.s rfl) rfl rfl (hv2.1) (show P_aw _ _ _ 9 [.ref (w.2.2 13), P_un, P_z i, P_un] [P_z sz, P_z (i + 1)] _ _ from ?_)
    refine P_aw_icf P_i61_9 ⟨by omega, by omega⟩ ⟨by omega, by omega⟩ (P_ci_gef (by omega)) (show P_aw _ _ _ 12 [.ref (w.2.2 13), P_un, P_z i, P_un] [] _ _ from ?_)
    refine P_aw_op (L' := [.ref (w.2.2 13), P_un, P_z i, P_un]) (st' := [.ref (w.2.2 13)]) P_i61_12 rfl (show P_aw _ _ _ 13 [.ref (w.2.2 13), P_un, P_z i, P_un] [.ref (w.2.2 13)] _ _ from ?_)
    refine P_aw_op (L' := [.ref (w.2.2 13), P_un, P_z i, P_un]) (st' := [P_z i, .ref (w.2.2 13)]) P_i61_13 rfl (show P_aw _ _ _ 14 [.ref (w.2.2 13), P_un, P_z i, P_un] [P_z i, .ref (w.2.2 13)] _ _ from ?_)
    refine P_aw_op (L' := [.ref (w.2.2 13), P_un, P_z i, P_un]) (st' := [P_z 1, P_z i, .ref (w.2.2 13)]) P_i61_14 rfl (show P_aw _ _ _ 15 [.ref (w.2.2 13), P_un, P_z i, P_un] [P_z 1, P_z i, .ref (w.2.2 13)] _ _ from ?_)
    refine P_aw_op (L' := [.ref (w.2.2 13), P_un, P_z i, P_un]) (st' := [P_z (i + 1), .ref (w.2.2 13)]) P_i61_15 P_o_iadd (show P_aw _ _ _ 16 [.ref (w.2.2 13), P_un, P_z i, P_un] [P_z (i + 1), .ref (w.2.2 13)] _ _ from ?_)
    refine P_aw_call P_i61_16 rfl rfl (fun _ => rfl) rfl rfl rfl rfl (y2 := 59) (as := [.ref (w.2.2 13), P_z (i + 1)]) (r0 := []) (P_inv_v (hw.2.1 13 (by decide)) (hw.s rfl) rfl rfl) (Nat.le_of_ble_eq_true rfl) (by decide) rfl (Nat.le_of_ble_eq_true rfl) (show P_aw _ _ _ 0 [.ref (w.2.2 13), P_z (i + 1), P_un] [] _ _ from ?_)
    refine P_aw_op (L' := [.ref (w.2.2 13), P_z (i + 1), P_un]) (st' := [P_z (i + 1)]) P_i59_0 rfl (show P_aw _ _ _ 1 [.ref (w.2.2 13), P_z (i + 1), P_un] [P_z (i + 1)] _ _ from ?_)
    refine P_aw_izf P_i59_1 ⟨by omega, by omega⟩ (P_ci_ltf (by omega)) (show P_aw _ _ _ 4 [.ref (w.2.2 13), P_z (i + 1), P_un] [] _ _ from ?_)
    refine P_aw_op (L' := [.ref (w.2.2 13), P_z (i + 1), P_un]) (st' := [P_z (i + 1)]) P_i59_4 rfl (show P_aw _ _ _ 5 [.ref (w.2.2 13), P_z (i + 1), P_un] [P_z (i + 1)] _ _ from ?_)
    refine P_aw_op (L' := [.ref (w.2.2 13), P_z (i + 1), P_un]) (st' := [.ref (w.2.2 13), P_z (i + 1)]) P_i59_5 rfl (show P_aw _ _ _ 6 [.ref (w.2.2 13), P_z (i + 1), P_un] [.ref (w.2.2 13), P_z (i + 1)] _ _ from ?_)
    refine P_aw_getR P_i59_6 (hw.2.1 13 (by decide)) (hw.s rfl) rfl rfl (show P_aw _ _ _ 9 [.ref (w.2.2 13), P_z (i + 1), P_un] [.ref (w.2.2 14), P_z (i + 1)] _ _ from ?_)
    refine P_aw_clen P_i59_9 (hw.2.1 14 (by decide)) (hw.s rfl) rfl (show P_aw _ _ _ 10 [.ref (w.2.2 13), P_z (i + 1), P_un] [P_z 12, P_z (i + 1)] _ _ from ?_)
    refine P_aw_ict P_i59_10 ⟨by omega, by omega⟩ ⟨by decide, by decide⟩ (P_ci_ltt (by omega)) (show P_aw _ _ _ 18 [.ref (w.2.2 13), P_z (i + 1), P_un] [] _ _ from ?_)
    refine P_aw_op (L' := [.ref (w.2.2 13), P_z (i + 1), P_un]) (st' := [.ref (w.2.2 13)]) P_i59_18 rfl (show P_aw _ _ _ 19 [.ref (w.2.2 13), P_z (i + 1), P_un] [.ref (w.2.2 13)] _ _ from ?_)
    refine P_aw_getR P_i59_19 (hw.2.1 13 (by decide)) (hw.s rfl) rfl rfl (show P_aw _ _ _ 22 [.ref (w.2.2 13), P_z (i + 1), P_un] [.ref (w.2.2 14)] _ _ from ?_)
    refine P_aw_op (L' := [.ref (w.2.2 13), P_z (i + 1), P_un]) (st' := [P_z (i + 1), .ref (w.2.2 14)]) P_i59_22 rfl (show P_aw _ _ _ 23 [.ref (w.2.2 13), P_z (i + 1), P_un] [P_z (i + 1), .ref (w.2.2 14)] _ _ from ?_)
    refine P_aw_cld P_i59_23 (hw.2.1 14 (by decide)) (hw.s rfl) (by decide) (by omega) (P_c12 (by omega)) (by decide) (show P_aw _ _ _ 24 [.ref (w.2.2 13), P_z (i + 1), P_un] [.ref (w.2.2 (15 + (i + 1).toNat))] _ _ from ?_)
    refine P_aw_op (L' := [.ref (w.2.2 13), P_z (i + 1), .ref (w.2.2 (15 + (i + 1).toNat))]) (st' := []) P_i59_24 rfl (show P_aw _ _ _ 25 [.ref (w.2.2 13), P_z (i + 1), .ref (w.2.2 (15 + (i + 1).toNat))] [] _ _ from ?_)
    refine P_aw_op (L' := [.ref (w.2.2 13), P_z (i + 1), .ref (w.2.2 (15 + (i + 1).toNat))]) (st' := [.ref (w.2.2 (15 + (i + 1).toNat))]) P_i59_25 rfl (show P_aw _ _ _ 26 [.ref (w.2.2 13), P_z (i + 1), .ref (w.2.2 (15 + (i + 1).toNat))] [.ref (w.2.2 (15 + (i + 1).toNat))] _ _ from ?_)
    refine P_aw_brt P_i59_26 rfl (show P_aw _ _ _ 36 [.ref (w.2.2 13), P_z (i + 1), .ref (w.2.2 (15 + (i + 1).toNat))] [] _ _ from ?_)
    refine P_aw_op (L' := [.ref (w.2.2 13), P_z (i + 1), .ref (w.2.2 (15 + (i + 1).toNat))]) (st' := [.ref (w.2.2 (15 + (i + 1).toNat))]) P_i59_36 rfl (show P_aw _ _ _ 37 [.ref (w.2.2 13), P_z (i + 1), .ref (w.2.2 (15 + (i + 1).toNat))] [.ref (w.2.2 (15 + (i + 1).toNat))] _ _ from ?_)
    refine P_aw_end P_i59_37 rfl rfl (fun _ => rfl) rfl ?_
    show P_aw _ _ _ 19 [.ref (w.2.2 13), P_un, P_z i, P_un] [.ref (w.2.2 (15 + (i + 1).toNat))] _ _
    refine P_aw_op (L' := [.ref (w.2.2 13), P_un, P_z i, .ref (w.2.2 (15 + (i + 1).toNat))]) (st' := []) P_i61_19 rfl (show P_aw _ _ _ 20 [.ref (w.2.2 13), P_un, P_z i, .ref (w.2.2 (15 + (i + 1).toNat))] [] _ _ from ?_)
    refine P_aw_op (L' := [.ref (w.2.2 13), P_un, P_z i, .ref (w.2.2 (15 + (i + 1).toNat))]) (st' := [.ref (w.2.2 13)]) P_i61_20 rfl (show P_aw _ _ _ 21 [.ref (w.2.2 13), P_un, P_z i, .ref (w.2.2 (15 + (i + 1).toNat))] [.ref (w.2.2 13)] _ _ from ?_)
    refine P_aw_op (L' := [.ref (w.2.2 13), P_un, P_z i, .ref (w.2.2 (15 + (i + 1).toNat))]) (st' := [P_z i, .ref (w.2.2 13)]) P_i61_21 rfl (show P_aw _ _ _ 22 [.ref (w.2.2 13), P_un, P_z i, .ref (w.2.2 (15 + (i + 1).toNat))] [P_z i, .ref (w.2.2 13)] _ _ from ?_)
    refine P_aw_call P_i61_22 rfl rfl (fun _ => rfl) rfl rfl rfl rfl (y2 := 59) (as := [.ref (w.2.2 13), P_z i]) (r0 := []) (P_inv_v (hw.2.1 13 (by decide)) (hw.s rfl) rfl rfl) (Nat.le_of_ble_eq_true rfl) (by decide) rfl (Nat.le_of_ble_eq_true rfl) (show P_aw _ _ _ 0 [.ref (w.2.2 13), P_z i, P_un] [] _ _ from ?_)
    refine P_aw_op (L' := [.ref (w.2.2 13), P_z i, P_un]) (st' := [P_z i]) P_i59_0 rfl (show P_aw _ _ _ 1 [.ref (w.2.2 13), P_z i, P_un] [P_z i] _ _ from ?_)
    refine P_aw_izf P_i59_1 ⟨by omega, by omega⟩ (P_ci_ltf (by omega)) (show P_aw _ _ _ 4 [.ref (w.2.2 13), P_z i, P_un] [] _ _ from ?_)
    refine P_aw_op (L' := [.ref (w.2.2 13), P_z i, P_un]) (st' := [P_z i]) P_i59_4 rfl (show P_aw _ _ _ 5 [.ref (w.2.2 13), P_z i, P_un] [P_z i] _ _ from ?_)
    refine P_aw_op (L' := [.ref (w.2.2 13), P_z i, P_un]) (st' := [.ref (w.2.2 13), P_z i]) P_i59_5 rfl (show P_aw _ _ _ 6 [.ref (w.2.2 13), P_z i, P_un] [.ref (w.2.2 13), P_z i] _ _ from ?_)
    refine P_aw_getR P_i59_6 (hw.2.1 13 (by decide)) (hw.s rfl) rfl rfl (show P_aw _ _ _ 9 [.ref (w.2.2 13), P_z i, P_un] [.ref (w.2.2 14), P_z i] _ _ from ?_)
    refine P_aw_clen P_i59_9 (hw.2.1 14 (by decide)) (hw.s rfl) rfl (show P_aw _ _ _ 10 [.ref (w.2.2 13), P_z i, P_un] [P_z 12, P_z i] _ _ from ?_)
    refine P_aw_ict P_i59_10 ⟨by omega, by omega⟩ ⟨by decide, by decide⟩ (P_ci_ltt (by omega)) (show P_aw _ _ _ 18 [.ref (w.2.2 13), P_z i, P_un] [] _ _ from ?_)
    refine P_aw_op (L' := [.ref (w.2.2 13), P_z i, P_un]) (st' := [.ref (w.2.2 13)]) P_i59_18 rfl (show P_aw _ _ _ 19 [.ref (w.2.2 13), P_z i, P_un] [.ref (w.2.2 13)] _ _ from ?_)
    refine P_aw_getR P_i59_19 (hw.2.1 13 (by decide)) (hw.s rfl) rfl rfl (show P_aw _ _ _ 22 [.ref (w.2.2 13), P_z i, P_un] [.ref (w.2.2 14)] _ _ from ?_)
    refine P_aw_op (L' := [.ref (w.2.2 13), P_z i, P_un]) (st' := [P_z i, .ref (w.2.2 14)]) P_i59_22 rfl (show P_aw _ _ _ 23 [.ref (w.2.2 13), P_z i, P_un] [P_z i, .ref (w.2.2 14)] _ _ from ?_)
    refine P_aw_cld P_i59_23 (hw.2.1 14 (by decide)) (hw.s rfl) (by decide) (by omega) (P_c12 (by omega)) (by decide) (show P_aw _ _ _ 24 [.ref (w.2.2 13), P_z i, P_un] [.ref (w.2.2 (15 + i.toNat))] _ _ from ?_)
    refine P_aw_op (L' := [.ref (w.2.2 13), P_z i, .ref (w.2.2 (15 + i.toNat))]) (st' := []) P_i59_24 rfl (show P_aw _ _ _ 25 [.ref (w.2.2 13), P_z i, .ref (w.2.2 (15 + i.toNat))] [] _ _ from ?_)
    refine P_aw_op (L' := [.ref (w.2.2 13), P_z i, .ref (w.2.2 (15 + i.toNat))]) (st' := [.ref (w.2.2 (15 + i.toNat))]) P_i59_25 rfl (show P_aw _ _ _ 26 [.ref (w.2.2 13), P_z i, .ref (w.2.2 (15 + i.toNat))] [.ref (w.2.2 (15 + i.toNat))] _ _ from ?_)
    refine P_aw_brt P_i59_26 rfl (show P_aw _ _ _ 36 [.ref (w.2.2 13), P_z i, .ref (w.2.2 (15 + i.toNat))] [] _ _ from ?_)
    refine P_aw_op (L' := [.ref (w.2.2 13), P_z i, .ref (w.2.2 (15 + i.toNat))]) (st' := [.ref (w.2.2 (15 + i.toNat))]) P_i59_36 rfl (show P_aw _ _ _ 37 [.ref (w.2.2 13), P_z i, .ref (w.2.2 (15 + i.toNat))] [.ref (w.2.2 (15 + i.toNat))] _ _ from ?_)
    refine P_aw_end P_i59_37 rfl rfl (fun _ => rfl) rfl ?_
    show P_aw _ _ _ 25 [.ref (w.2.2 13), P_un, P_z i, .ref (w.2.2 (15 + (i + 1).toNat))] [.ref (w.2.2 (15 + i.toNat))] _ _
    refine P_aw_op (L' := [.ref (w.2.2 13), P_un, P_z i, .ref (w.2.2 (15 + (i + 1).toNat))]) (st' := [.ref (w.2.2 (15 + (i + 1).toNat)), .ref (w.2.2 (15 + i.toNat))]) P_i61_25 rfl (show P_aw _ _ _ 26 [.ref (w.2.2 13), P_un, P_z i, .ref (w.2.2 (15 + (i + 1).toNat))] [.ref (w.2.2 (15 + (i + 1).toNat)), .ref (w.2.2 (15 + i.toNat))] _ _ from ?_)
    have hg2 := hv3 (i + 1) 0 (by omega) (by omega) (by omega)
    refine P_aw_getv P_i61_26 (hw.c (by omega)).2 (hw.c (by omega)).1 rfl rfl (hv2.2.2 (i + 1) 0 (by omega) (by omega) (by omega)) (show P_aw _ _ _ 29 [.ref (w.2.2 13), P_un, P_z i, .ref (w.2.2 (15 + (i + 1).toNat))] [P_z (C (i + 1) 0), .ref (w.2.2 (15 + i.toNat))] _ _ from ?_)
    refine P_aw_op (L' := [.ref (w.2.2 13), P_un, P_z i, .ref (w.2.2 (15 + (i + 1).toNat))]) (st' := [.ref (w.2.2 (15 + (i + 1).toNat)), P_z (C (i + 1) 0), .ref (w.2.2 (15 + i.toNat))]) P_i61_29 rfl (show P_aw _ _ _ 30 [.ref (w.2.2 13), P_un, P_z i, .ref (w.2.2 (15 + (i + 1).toNat))] [.ref (w.2.2 (15 + (i + 1).toNat)), P_z (C (i + 1) 0), .ref (w.2.2 (15 + i.toNat))] _ _ from ?_)
    have hg3 := hv3 (i + 1) 1 (by omega) (by omega) (by omega)
    refine P_aw_getv P_i61_30 (hw.c (by omega)).2 (hw.c (by omega)).1 rfl rfl (hv2.2.2 (i + 1) 1 (by omega) (by omega) (by omega)) (show P_aw _ _ _ 33 [.ref (w.2.2 13), P_un, P_z i, .ref (w.2.2 (15 + (i + 1).toNat))] [P_z (C (i + 1) 1), P_z (C (i + 1) 0), .ref (w.2.2 (15 + i.toNat))] _ _ from ?_)
    refine P_aw_op (L' := [.ref (w.2.2 13), P_un, P_z i, .ref (w.2.2 (15 + (i + 1).toNat))]) (st' := [.ref (w.2.2 (15 + (i + 1).toNat)), P_z (C (i + 1) 1), P_z (C (i + 1) 0), .ref (w.2.2 (15 + i.toNat))]) P_i61_33 rfl (show P_aw _ _ _ 34 [.ref (w.2.2 13), P_un, P_z i, .ref (w.2.2 (15 + (i + 1).toNat))] [.ref (w.2.2 (15 + (i + 1).toNat)), P_z (C (i + 1) 1), P_z (C (i + 1) 0), .ref (w.2.2 (15 + i.toNat))] _ _ from ?_)
    have hg4 := hv3 (i + 1) 2 (by omega) (by omega) (by omega)
    refine P_aw_getv P_i61_34 (hw.c (by omega)).2 (hw.c (by omega)).1 rfl rfl (hv2.2.2 (i + 1) 2 (by omega) (by omega) (by omega)) (show P_aw _ _ _ 37 [.ref (w.2.2 13), P_un, P_z i, .ref (w.2.2 (15 + (i + 1).toNat))] [P_z (C (i + 1) 2), P_z (C (i + 1) 1), P_z (C (i + 1) 0), .ref (w.2.2 (15 + i.toNat))] _ _ from ?_)
    refine P_aw_op (L' := [.ref (w.2.2 13), P_un, P_z i, .ref (w.2.2 (15 + (i + 1).toNat))]) (st' := [.ref (w.2.2 (15 + (i + 1).toNat)), P_z (C (i + 1) 2), P_z (C (i + 1) 1), P_z (C (i + 1) 0), .ref (w.2.2 (15 + i.toNat))]) P_i61_37 rfl (show P_aw _ _ _ 38 [.ref (w.2.2 13), P_un, P_z i, .ref (w.2.2 (15 + (i + 1).toNat))] [.ref (w.2.2 (15 + (i + 1).toNat)), P_z (C (i + 1) 2), P_z (C (i + 1) 1), P_z (C (i + 1) 0), .ref (w.2.2 (15 + i.toNat))] _ _ from ?_)
    have hg5 := hv3 (i + 1) 3 (by omega) (by omega) (by omega)
    refine P_aw_getv P_i61_38 (hw.c (by omega)).2 (hw.c (by omega)).1 rfl rfl (hv2.2.2 (i + 1) 3 (by omega) (by omega) (by omega)) (show P_aw _ _ _ 41 [.ref (w.2.2 13), P_un, P_z i, .ref (w.2.2 (15 + (i + 1).toNat))] [P_z (C (i + 1) 3), P_z (C (i + 1) 2), P_z (C (i + 1) 1), P_z (C (i + 1) 0), .ref (w.2.2 (15 + i.toNat))] _ _ from ?_)
    refine P_aw_call P_i61_41 rfl rfl (fun _ => rfl) rfl rfl rfl rfl (y2 := 15) (as := [.ref (w.2.2 (15 + i.toNat)), P_z (C (i + 1) 0), P_z (C (i + 1) 1), P_z (C (i + 1) 2), P_z (C (i + 1) 3)]) (r0 := []) (P_inv_v (hw.c (by omega)).2 (hw.c (by omega)).1 rfl rfl) (Nat.le_of_ble_eq_true rfl) (by decide) rfl (Nat.le_of_ble_eq_true rfl) (show P_aw _ _ _ 0 [.ref (w.2.2 (15 + i.toNat)), P_z (C (i + 1) 0), P_z (C (i + 1) 1), P_z (C (i + 1) 2), P_z (C (i + 1) 3)] [] _ _ from ?_)
    refine P_aw_op (L' := [.ref (w.2.2 (15 + i.toNat)), P_z (C (i + 1) 0), P_z (C (i + 1) 1), P_z (C (i + 1) 2), P_z (C (i + 1) 3)]) (st' := [.ref (w.2.2 (15 + i.toNat))]) P_i15_0 rfl (show P_aw _ _ _ 1 [.ref (w.2.2 (15 + i.toNat)), P_z (C (i + 1) 0), P_z (C (i + 1) 1), P_z (C (i + 1) 2), P_z (C (i + 1) 3)] [.ref (w.2.2 (15 + i.toNat))] _ _ from ?_)
    refine P_aw_op (L' := [.ref (w.2.2 (15 + i.toNat)), P_z (C (i + 1) 0), P_z (C (i + 1) 1), P_z (C (i + 1) 2), P_z (C (i + 1) 3)]) (st' := [P_z (C (i + 1) 0), .ref (w.2.2 (15 + i.toNat))]) P_i15_1 rfl (show P_aw _ _ _ 2 [.ref (w.2.2 (15 + i.toNat)), P_z (C (i + 1) 0), P_z (C (i + 1) 1), P_z (C (i + 1) 2), P_z (C (i + 1) 3)] [P_z (C (i + 1) 0), .ref (w.2.2 (15 + i.toNat))] _ _ from ?_)
    refine P_aw_put P_i15_2 (hw.c (by omega)).2 (hw.c (by omega)).1 rfl rfl rfl (show P_aw _ _ _ 5 [.ref (w.2.2 (15 + i.toNat)), P_z (C (i + 1) 0), P_z (C (i + 1) 1), P_z (C (i + 1) 2), P_z (C (i + 1) 3)] [] _ _ from ?_)
    refine P_aw_op (L' := [.ref (w.2.2 (15 + i.toNat)), P_z (C (i + 1) 0), P_z (C (i + 1) 1), P_z (C (i + 1) 2), P_z (C (i + 1) 3)]) (st' := [.ref (w.2.2 (15 + i.toNat))]) P_i15_5 rfl (show P_aw _ _ _ 6 [.ref (w.2.2 (15 + i.toNat)), P_z (C (i + 1) 0), P_z (C (i + 1) 1), P_z (C (i + 1) 2), P_z (C (i + 1) 3)] [.ref (w.2.2 (15 + i.toNat))] _ _ from ?_)
    refine P_aw_op (L' := [.ref (w.2.2 (15 + i.toNat)), P_z (C (i + 1) 0), P_z (C (i + 1) 1), P_z (C (i + 1) 2), P_z (C (i + 1) 3)]) (st' := [P_z (C (i + 1) 1), .ref (w.2.2 (15 + i.toNat))]) P_i15_6 rfl (show P_aw _ _ _ 7 [.ref (w.2.2 (15 + i.toNat)), P_z (C (i + 1) 0), P_z (C (i + 1) 1), P_z (C (i + 1) 2), P_z (C (i + 1) 3)] [P_z (C (i + 1) 1), .ref (w.2.2 (15 + i.toNat))] _ _ from ?_)
    refine P_aw_put P_i15_7 (hw.c (by omega)).2 (hw.c (by omega)).1 rfl rfl rfl (show P_aw _ _ _ 10 [.ref (w.2.2 (15 + i.toNat)), P_z (C (i + 1) 0), P_z (C (i + 1) 1), P_z (C (i + 1) 2), P_z (C (i + 1) 3)] [] _ _ from ?_)
    refine P_aw_op (L' := [.ref (w.2.2 (15 + i.toNat)), P_z (C (i + 1) 0), P_z (C (i + 1) 1), P_z (C (i + 1) 2), P_z (C (i + 1) 3)]) (st' := [.ref (w.2.2 (15 + i.toNat))]) P_i15_10 rfl (show P_aw _ _ _ 11 [.ref (w.2.2 (15 + i.toNat)), P_z (C (i + 1) 0), P_z (C (i + 1) 1), P_z (C (i + 1) 2), P_z (C (i + 1) 3)] [.ref (w.2.2 (15 + i.toNat))] _ _ from ?_)
    refine P_aw_op (L' := [.ref (w.2.2 (15 + i.toNat)), P_z (C (i + 1) 0), P_z (C (i + 1) 1), P_z (C (i + 1) 2), P_z (C (i + 1) 3)]) (st' := [P_z (C (i + 1) 2), .ref (w.2.2 (15 + i.toNat))]) P_i15_11 rfl (show P_aw _ _ _ 12 [.ref (w.2.2 (15 + i.toNat)), P_z (C (i + 1) 0), P_z (C (i + 1) 1), P_z (C (i + 1) 2), P_z (C (i + 1) 3)] [P_z (C (i + 1) 2), .ref (w.2.2 (15 + i.toNat))] _ _ from ?_)
    refine P_aw_put P_i15_12 (hw.c (by omega)).2 (hw.c (by omega)).1 rfl rfl rfl (show P_aw _ _ _ 15 [.ref (w.2.2 (15 + i.toNat)), P_z (C (i + 1) 0), P_z (C (i + 1) 1), P_z (C (i + 1) 2), P_z (C (i + 1) 3)] [] _ _ from ?_)
    refine P_aw_op (L' := [.ref (w.2.2 (15 + i.toNat)), P_z (C (i + 1) 0), P_z (C (i + 1) 1), P_z (C (i + 1) 2), P_z (C (i + 1) 3)]) (st' := [.ref (w.2.2 (15 + i.toNat))]) P_i15_15 rfl (show P_aw _ _ _ 16 [.ref (w.2.2 (15 + i.toNat)), P_z (C (i + 1) 0), P_z (C (i + 1) 1), P_z (C (i + 1) 2), P_z (C (i + 1) 3)] [.ref (w.2.2 (15 + i.toNat))] _ _ from ?_)
    refine P_aw_op (L' := [.ref (w.2.2 (15 + i.toNat)), P_z (C (i + 1) 0), P_z (C (i + 1) 1), P_z (C (i + 1) 2), P_z (C (i + 1) 3)]) (st' := [P_z (C (i + 1) 3), .ref (w.2.2 (15 + i.toNat))]) P_i15_16 rfl (show P_aw _ _ _ 18 [.ref (w.2.2 (15 + i.toNat)), P_z (C (i + 1) 0), P_z (C (i + 1) 1), P_z (C (i + 1) 2), P_z (C (i + 1) 3)] [P_z (C (i + 1) 3), .ref (w.2.2 (15 + i.toNat))] _ _ from ?_)
    refine P_aw_put P_i15_18 (hw.c (by omega)).2 (hw.c (by omega)).1 rfl rfl rfl (show P_aw _ _ _ 21 [.ref (w.2.2 (15 + i.toNat)), P_z (C (i + 1) 0), P_z (C (i + 1) 1), P_z (C (i + 1) 2), P_z (C (i + 1) 3)] [] _ _ from ?_)
    refine P_aw_end P_i15_21 rfl rfl (fun _ => rfl) rfl ?_
    show P_aw _ _ _ 44 [.ref (w.2.2 13), P_un, P_z i, .ref (w.2.2 (15 + (i + 1).toNat))] [] _ _
    refine P_aw_op (L' := [.ref (w.2.2 13), P_un, P_z (i + 1), .ref (w.2.2 (15 + (i + 1).toNat))]) (st' := []) P_i61_44 (P_o_iinc rfl) (show P_aw _ _ _ 47 [.ref (w.2.2 13), P_un, P_z (i + 1), .ref (w.2.2 (15 + (i + 1).toNat))] [] _ _ from ?_)
    refine P_aw_goto P_i61_47 (show P_aw _ _ _ 2 [.ref (w.2.2 13), P_un, P_z (i + 1), P_un] [] _ _ from ?_)
    exact ih (A_4 σ (15 + i.toNat) (C (i + 1) 0) (C (i + 1) 1) (C (i + 1) 2) (C (i + 1) 3)) (fun j f => if j = i then C (i + 1) f else C j f) (i + 1) (by omega) (by omega) (A_rmK hv2 (by omega) (by omega)) (fun j f h0 h1 h2 => by (try simp only); split <;> exact hv3 _ f (by omega) (by omega) h2) (fun σ' h1 h2 => q σ' (A_kp_tr (A_kp_4 (by omega)) h1) (A_K_cg (fun j f h0 h1 => by (try simp only); (repeat' split) <;> first | rfl | (exfalso; omega) | (congr 1; omega)) h2))

theorem s_rmc {w : P_Lw} (hw : P_Cw w) {d : Nat} {Q : P_R → P_A → Prop} {σ : P_A} {sz x : Int} {C : Int → Nat → Int} (hK : A_K σ sz C) (hR : A_KR sz C) (hx : 0 ≤ x ∧ x < sz) (q : ∀ σ', A_kp σ σ' → A_K σ' (sz - 1) (fun j f => if j < x then C j f else C (j + 1) f) → Q (.inl none) σ') : P_aw w (d + 2) 61 0 [.ref (w.2.2 13), P_z x, P_un, P_un] [] σ Q := by
  refine P_aw_op (L' := [.ref (w.2.2 13), P_z x, P_un, P_un]) (st' := [P_z x]) P_i61_0 rfl (show P_aw _ _ _ 1 [.ref (w.2.2 13), P_z x, P_un, P_un] [P_z x] _ _ from ?_)
  refine P_aw_op (L' := [.ref (w.2.2 13), P_z x, P_z x, P_un]) (st' := []) P_i61_1 rfl (show P_aw _ _ _ 2 [.ref (w.2.2 13), P_un, P_z x, P_un] [] _ _ from ?_)
  exact s_rcl hw (sz - x - 1).toNat σ C x ⟨by omega, by omega, hK.2.1.2⟩ (by have := hK.2.1; omega) hK hR q

/-- a condition: left, sign, right, level -/
abbrev A_cd : Type := Int × Int × Int × Int
def A_cf (x : A_cd) (f : Nat) : Int := match f with
  | 0 => x.1
  | 1 => x.2.1
  | 2 => x.2.2.1
  | _ => x.2.2.2
def A_lc (cs : List A_cd) (j : Int) (f : Nat) : Int := A_cf (cs.getD j.toNat (0, 0, 0, 0)) f
theorem A_lc_mid {A B : List A_cd} {y : A_cd} {i : Int} (hi : i = (A.length : Int)) (f : Nat) : A_lc (A ++ y :: B) i f = A_cf y f := by
  subst hi
  unfold A_lc
  rw [Int.toNat_natCast, List.getD_eq_getElem?_getD, List.getElem?_append_right (Nat.le_refl _), Nat.sub_self]
  rfl
def A_KL (σ : P_A) (cs : List A_cd) : Prop := A_K σ (cs.length : Int) (A_lc cs)
def A_ok (ns : Int) (x : A_cd) : Prop := A_col ns x.1 ∧ (9 ≤ x.2.1 ∧ x.2.1 ≤ 11) ∧ (A_col ns x.2.2.1 ∨ 1000 ≤ x.2.2.1 ∧ x.2.2.1 ≤ 1999) ∧ (0 ≤ x.2.2.2 ∧ x.2.2.2 ≤ 2)
def A_oks (ns : Int) (cs : List A_cd) : Prop := ∀ x ∈ cs, A_ok ns x
theorem A_ok_rg {ns : Int} {x : A_cd} (h : A_ok ns x) : (100 ≤ A_cf x 0 ∧ A_cf x 0 ≤ 199) ∧ (9 ≤ A_cf x 1 ∧ A_cf x 1 ≤ 11) ∧ (100 ≤ A_cf x 2 ∧ A_cf x 2 ≤ 1999 ∧ (199 < A_cf x 2 → 1000 ≤ A_cf x 2)) ∧ (0 ≤ A_cf x 3 ∧ A_cf x 3 ≤ 2) := by
  obtain ⟨h1, h2, h3, h4⟩ := h
  have h5 := A_cR h3
  exact ⟨⟨h1.1, h1.2.1⟩, h2, ⟨h5.1, h5.2.1, h5.2.2.2⟩, h4⟩
theorem A_KL_set {σ : P_A} {A B : List A_cd} {y : A_cd} {v : Int} (hK : A_KL σ (A ++ y :: B)) : A_KL (P_u2 σ (15 + A.length) 3 v) (A ++ (y.1, y.2.1, y.2.2.1, v) :: B) := by
  have hz := hK.2.1
  have hlen : (A ++ (y.1, y.2.1, y.2.2.1, v) :: B).length = (A ++ y :: B).length := by simp
  refine ⟨(P_u2_ne (by omega)).trans (by rw [hlen]; exact hK.1), by rw [hlen]; exact hz, fun j f a0 a1 a2 => ?_⟩
  rw [hlen] at a1
  have hb := hK.2.2 j f a0 a1 a2
  by_cases e : j = (A.length : Int)
  · rw [A_lc_mid e]
    rw [A_lc_mid e] at hb
    have e2 : j.toNat = A.length := by omega
    rw [e2] at hb ⊢
    match f, a2 with
    | 0, _ => rw [P_u2_ne (by omega)]; exact hb
    | 1, _ => rw [P_u2_ne (by omega)]; exact hb
    | 2, _ => rw [P_u2_ne (by omega)]; exact hb
    | 3, _ => rw [P_u2_at]; rfl
    | f + 4, h => exact absurd h (by omega)
  · rw [P_u2_ne (by omega), hb]
    unfold A_lc
    congr 1
    rw [List.getD_eq_getElem?_getD, List.getD_eq_getElem?_getD]
    congr 1
    rcases Nat.lt_or_ge j.toNat A.length with q | q
    · rw [List.getElem?_append_left q, List.getElem?_append_left q]
    · rw [List.getElem?_append_right q, List.getElem?_append_right q]
      obtain ⟨m, hm⟩ : ∃ m, j.toNat - A.length = m + 1 := ⟨j.toNat - A.length - 1, by omega⟩
      rw [hm]
      rfl
theorem A_C_of {σ : P_A} {ns : Int} {cs : List A_cd} (hK : A_KL σ cs) (ho : A_oks ns cs) : A_C σ ns (cs.length : Int) (fun i => A_lc cs i 0) (fun i => A_lc cs i 1) (fun i => A_lc cs i 2) (fun i => A_lc cs i 3) := by
  refine ⟨hK.1, hK.2.1, fun i h0 h1 => ⟨⟨hK.2.2 i 0 h0 h1 (by omega), hK.2.2 i 1 h0 h1 (by omega), hK.2.2 i 2 h0 h1 (by omega), hK.2.2 i 3 h0 h1 (by omega)⟩, ?_⟩⟩
  have hx : cs.getD i.toNat (0, 0, 0, 0) ∈ cs := by
    rw [List.getD_eq_getElem?_getD, List.getElem?_eq_getElem (show i.toNat < cs.length by omega)]
    exact List.getElem_mem _
  exact ho _ hx

/-- whether a column is fixed to a number: 1 if it is -/
def A_fx (x v : Int) : List A_cd → Int
  | [] => 0
  | y :: r => if A_cf y 1 = 9 ∧ A_cf y 0 = x ∧ A_cf y 2 = v then 1 else A_fx x v r
theorem A_fx_rg {x v : Int} : ∀ cs, A_fx x v cs = 0 ∨ A_fx x v cs = 1
  | [] => Or.inl rfl
  | y :: r => by
    simp only [A_fx]
    split
    · exact Or.inr rfl
    · exact A_fx_rg r
theorem A_len {A B : List A_cd} {y : A_cd} : ((A ++ y :: B).length : Int) = (A.length : Int) + 1 + (B.length : Int) := by
  rw [List.length_append, List.length_cons]
  omega
theorem A_app {A B : List A_cd} {y : A_cd} : A ++ y :: B = (A ++ [y]) ++ B := by simp
theorem A_mem {A B : List A_cd} {y : A_cd} : y ∈ A ++ y :: B := List.mem_append_right _ List.mem_cons_self

theorem s_fxl {w : P_Lw} (hw : P_Cw w) {d : Nat} {Q : P_R → P_A → Prop} {ns x v : Int} (hx : 0 ≤ x ∧ x ≤ 2000 ∧ 0 ≤ v ∧ v ≤ 2000) : ∀ (n : Nat) (σ : P_A) (A : List A_cd) (B : List A_cd) (i : Int), (i = ((A.length : Nat) : Int)) → (B.length = n) → (A_KL σ (A ++ B)) → (A_oks ns (A ++ B)) → Q (.inl (some (P_z (A_fx x v B)))) σ → P_aw w (d + 2) 75 2 [.ref (w.2.2 13), P_z x, P_z v, P_z i, P_un] [] σ Q := by
  intro n
  induction n with
  | zero =>
    intro σ A B i hvi hvB hK hok q
    obtain rfl : B = [] := List.length_eq_zero_iff.mp hvB
    have hl : ((A ++ []).length : Int) = (A.length : Int) := by simp
    have hz := hK.2.1
    refine P_aw_op (L' := [.ref (w.2.2 13), P_z x, P_z v, P_z i, P_un]) (st' := [P_z i]) P_i75_2 rfl (show P_aw _ _ _ 3 [.ref (w.2.2 13), P_z x, P_z v, P_z i, P_un] [P_z i] _ _ from ?_)
    refine P_aw_op (L' := [.ref (w.2.2 13), P_z x, P_z v, P_z i, P_un]) (st' := [.ref (w.2.2 13), P_z i]) P_i75_3 rfl (show P_aw _ _ _ 4 [.ref (w.2.2 13), P_z x, P_z v, P_z i, P_un] [.ref (w.2.2 13), P_z i] _ _ from ?_)
    have hg1 := hK.2.1
    refine P_aw_getv P_i75_4 (hw.2.1 13 (by decide)) (hw.s rfl) rfl rfl (hK.1) (show P_aw _ _ _ 7 [.ref (w.2.2 13), P_z x, P_z v, P_z i, P_un] [P_z ((A ++ []).length : Int), P_z i] _ _ from ?_)
    refine P_aw_ict P_i75_7 ⟨by omega, by omega⟩ ⟨by omega, by omega⟩ (P_ci_get (by omega)) (show P_aw _ _ _ 53 [.ref (w.2.2 13), P_z x, P_z v, P_z i, P_un] [] _ _ from ?_)
    refine P_aw_op (L' := [.ref (w.2.2 13), P_z x, P_z v, P_z i, P_un]) (st' := [P_z 0]) P_i75_53 rfl (show P_aw _ _ _ 54 [.ref (w.2.2 13), P_z x, P_z v, P_z i, P_un] [P_z 0] _ _ from ?_)
    refine P_aw_end P_i75_54 rfl rfl (fun _ => rfl) rfl ?_
    exact q
  | succ n ih =>
    intro σ A B i hvi hvB hK hok q
    obtain ⟨y, B, rfl⟩ : ∃ y B', B = y :: B' := by
      cases B with
      | nil => exact absurd hvB (by simp)
      | cons y B => exact ⟨y, B, rfl⟩
    have hl := A_len (A := A) (y := y) (B := B)
    have hlB : (B.length : Int) = (n : Int) := by have := Nat.succ.inj hvB; omega
    have hy := A_lc_mid (A := A) (B := B) (y := y) hvi
    have hok1 := hok y A_mem
    have hokr := A_ok_rg hok1
    have hz := hK.2.1
    refine P_aw_op (L' := [.ref (w.2.2 13), P_z x, P_z v, P_z i, P_un]) (st' := [P_z i]) P_i75_2 rfl (show P_aw _ _ _ 3 [.ref (w.2.2 13), P_z x, P_z v, P_z i, P_un] [P_z i] _ _ from ?_)
    refine P_aw_op (L' := [.ref (w.2.2 13), P_z x, P_z v, P_z i, P_un]) (st' := [.ref (w.2.2 13), P_z i]) P_i75_3 rfl (show P_aw _ _ _ 4 [.ref (w.2.2 13), P_z x, P_z v, P_z i, P_un] [.ref (w.2.2 13), P_z i] _ _ from ?_)
    have hg1 := hK.2.1
    refine P_aw_getv P_i75_4 (hw.2.1 13 (by decide)) (hw.s rfl) rfl rfl (hK.1) (show P_aw _ _ _ 7 [.ref (w.2.2 13), P_z x, P_z v, P_z i, P_un] [P_z ((A ++ y :: B).length : Int), P_z i] _ _ from ?_)
    refine P_aw_icf P_i75_7 ⟨by omega, by omega⟩ ⟨by omega, by omega⟩ (P_ci_gef (by omega)) (show P_aw _ _ _ 10 [.ref (w.2.2 13), P_z x, P_z v, P_z i, P_un] [] _ _ from ?_)
    refine P_aw_op (L' := [.ref (w.2.2 13), P_z x, P_z v, P_z i, P_un]) (st' := [.ref (w.2.2 13)]) P_i75_10 rfl (show P_aw _ _ _ 11 [.ref (w.2.2 13), P_z x, P_z v, P_z i, P_un] [.ref (w.2.2 13)] _ _ from ?_)
    refine P_aw_op (L' := [.ref (w.2.2 13), P_z x, P_z v, P_z i, P_un]) (st' := [P_z i, .ref (w.2.2 13)]) P_i75_11 rfl (show P_aw _ _ _ 12 [.ref (w.2.2 13), P_z x, P_z v, P_z i, P_un] [P_z i, .ref (w.2.2 13)] _ _ from ?_)
    refine P_aw_call P_i75_12 rfl rfl (fun _ => rfl) rfl rfl rfl rfl (y2 := 59) (as := [.ref (w.2.2 13), P_z i]) (r0 := []) (P_inv_v (hw.2.1 13 (by decide)) (hw.s rfl) rfl rfl) (Nat.le_of_ble_eq_true rfl) (by decide) rfl (Nat.le_of_ble_eq_true rfl) (show P_aw _ _ _ 0 [.ref (w.2.2 13), P_z i, P_un] [] _ _ from ?_)
    refine P_aw_op (L' := [.ref (w.2.2 13), P_z i, P_un]) (st' := [P_z i]) P_i59_0 rfl (show P_aw _ _ _ 1 [.ref (w.2.2 13), P_z i, P_un] [P_z i] _ _ from ?_)
    refine P_aw_izf P_i59_1 ⟨by omega, by omega⟩ (P_ci_ltf (by omega)) (show P_aw _ _ _ 4 [.ref (w.2.2 13), P_z i, P_un] [] _ _ from ?_)
    refine P_aw_op (L' := [.ref (w.2.2 13), P_z i, P_un]) (st' := [P_z i]) P_i59_4 rfl (show P_aw _ _ _ 5 [.ref (w.2.2 13), P_z i, P_un] [P_z i] _ _ from ?_)
    refine P_aw_op (L' := [.ref (w.2.2 13), P_z i, P_un]) (st' := [.ref (w.2.2 13), P_z i]) P_i59_5 rfl (show P_aw _ _ _ 6 [.ref (w.2.2 13), P_z i, P_un] [.ref (w.2.2 13), P_z i] _ _ from ?_)
    refine P_aw_getR P_i59_6 (hw.2.1 13 (by decide)) (hw.s rfl) rfl rfl (show P_aw _ _ _ 9 [.ref (w.2.2 13), P_z i, P_un] [.ref (w.2.2 14), P_z i] _ _ from ?_)
    refine P_aw_clen P_i59_9 (hw.2.1 14 (by decide)) (hw.s rfl) rfl (show P_aw _ _ _ 10 [.ref (w.2.2 13), P_z i, P_un] [P_z 12, P_z i] _ _ from ?_)
    refine P_aw_ict P_i59_10 ⟨by omega, by omega⟩ ⟨by decide, by decide⟩ (P_ci_ltt (by omega)) (show P_aw _ _ _ 18 [.ref (w.2.2 13), P_z i, P_un] [] _ _ from ?_)
    refine P_aw_op (L' := [.ref (w.2.2 13), P_z i, P_un]) (st' := [.ref (w.2.2 13)]) P_i59_18 rfl (show P_aw _ _ _ 19 [.ref (w.2.2 13), P_z i, P_un] [.ref (w.2.2 13)] _ _ from ?_)
    refine P_aw_getR P_i59_19 (hw.2.1 13 (by decide)) (hw.s rfl) rfl rfl (show P_aw _ _ _ 22 [.ref (w.2.2 13), P_z i, P_un] [.ref (w.2.2 14)] _ _ from ?_)
    refine P_aw_op (L' := [.ref (w.2.2 13), P_z i, P_un]) (st' := [P_z i, .ref (w.2.2 14)]) P_i59_22 rfl (show P_aw _ _ _ 23 [.ref (w.2.2 13), P_z i, P_un] [P_z i, .ref (w.2.2 14)] _ _ from ?_)
    refine P_aw_cld P_i59_23 (hw.2.1 14 (by decide)) (hw.s rfl) (by decide) (by omega) (P_c12 (by omega)) (by decide) (show P_aw _ _ _ 24 [.ref (w.2.2 13), P_z i, P_un] [.ref (w.2.2 (15 + i.toNat))] _ _ from ?_)
    refine P_aw_op (L' := [.ref (w.2.2 13), P_z i, .ref (w.2.2 (15 + i.toNat))]) (st' := []) P_i59_24 rfl (show P_aw _ _ _ 25 [.ref (w.2.2 13), P_z i, .ref (w.2.2 (15 + i.toNat))] [] _ _ from ?_)
    refine P_aw_op (L' := [.ref (w.2.2 13), P_z i, .ref (w.2.2 (15 + i.toNat))]) (st' := [.ref (w.2.2 (15 + i.toNat))]) P_i59_25 rfl (show P_aw _ _ _ 26 [.ref (w.2.2 13), P_z i, .ref (w.2.2 (15 + i.toNat))] [.ref (w.2.2 (15 + i.toNat))] _ _ from ?_)
    refine P_aw_brt P_i59_26 rfl (show P_aw _ _ _ 36 [.ref (w.2.2 13), P_z i, .ref (w.2.2 (15 + i.toNat))] [] _ _ from ?_)
    refine P_aw_op (L' := [.ref (w.2.2 13), P_z i, .ref (w.2.2 (15 + i.toNat))]) (st' := [.ref (w.2.2 (15 + i.toNat))]) P_i59_36 rfl (show P_aw _ _ _ 37 [.ref (w.2.2 13), P_z i, .ref (w.2.2 (15 + i.toNat))] [.ref (w.2.2 (15 + i.toNat))] _ _ from ?_)
    refine P_aw_end P_i59_37 rfl rfl (fun _ => rfl) rfl ?_
    show P_aw _ _ _ 15 [.ref (w.2.2 13), P_z x, P_z v, P_z i, P_un] [.ref (w.2.2 (15 + i.toNat))] _ _
    refine P_aw_op (L' := [.ref (w.2.2 13), P_z x, P_z v, P_z i, .ref (w.2.2 (15 + i.toNat))]) (st' := []) P_i75_15 rfl (show P_aw _ _ _ 17 [.ref (w.2.2 13), P_z x, P_z v, P_z i, .ref (w.2.2 (15 + i.toNat))] [] _ _ from ?_)
    refine P_aw_op (L' := [.ref (w.2.2 13), P_z x, P_z v, P_z i, .ref (w.2.2 (15 + i.toNat))]) (st' := [.ref (w.2.2 (15 + i.toNat))]) P_i75_17 rfl (show P_aw _ _ _ 19 [.ref (w.2.2 13), P_z x, P_z v, P_z i, .ref (w.2.2 (15 + i.toNat))] [.ref (w.2.2 (15 + i.toNat))] _ _ from ?_)
    have hg2 := A_ok_rg hok1
    refine P_aw_getv P_i75_19 (hw.c (by omega)).2 (hw.c (by omega)).1 rfl rfl ((hK.2.2 i 1 (by omega) (by omega) (by omega)).trans (hy 1)) (show P_aw _ _ _ 22 [.ref (w.2.2 13), P_z x, P_z v, P_z i, .ref (w.2.2 (15 + i.toNat))] [P_z (A_cf y 1)] _ _ from ?_)
    refine P_aw_op (L' := [.ref (w.2.2 13), P_z x, P_z v, P_z i, .ref (w.2.2 (15 + i.toNat))]) (st' := [P_z 9, P_z (A_cf y 1)]) P_i75_22 (P_o_bi (by decide)) (show P_aw _ _ _ 24 [.ref (w.2.2 13), P_z x, P_z v, P_z i, .ref (w.2.2 (15 + i.toNat))] [P_z 9, P_z (A_cf y 1)] _ _ from ?_)
    by_cases hc3 : (A_cf y 1) = 9
    · refine P_aw_icf P_i75_24 ⟨by omega, by omega⟩ ⟨by decide, by decide⟩ (P_ci_nef (by omega)) (show P_aw _ _ _ 27 [.ref (w.2.2 13), P_z x, P_z v, P_z i, .ref (w.2.2 (15 + i.toNat))] [] _ _ from ?_)
      refine P_aw_op (L' := [.ref (w.2.2 13), P_z x, P_z v, P_z i, .ref (w.2.2 (15 + i.toNat))]) (st' := [.ref (w.2.2 (15 + i.toNat))]) P_i75_27 rfl (show P_aw _ _ _ 29 [.ref (w.2.2 13), P_z x, P_z v, P_z i, .ref (w.2.2 (15 + i.toNat))] [.ref (w.2.2 (15 + i.toNat))] _ _ from ?_)
      have hg4 := A_ok_rg hok1
      refine P_aw_getv P_i75_29 (hw.c (by omega)).2 (hw.c (by omega)).1 rfl rfl ((hK.2.2 i 0 (by omega) (by omega) (by omega)).trans (hy 0)) (show P_aw _ _ _ 32 [.ref (w.2.2 13), P_z x, P_z v, P_z i, .ref (w.2.2 (15 + i.toNat))] [P_z (A_cf y 0)] _ _ from ?_)
      refine P_aw_op (L' := [.ref (w.2.2 13), P_z x, P_z v, P_z i, .ref (w.2.2 (15 + i.toNat))]) (st' := [P_z x, P_z (A_cf y 0)]) P_i75_32 rfl (show P_aw _ _ _ 33 [.ref (w.2.2 13), P_z x, P_z v, P_z i, .ref (w.2.2 (15 + i.toNat))] [P_z x, P_z (A_cf y 0)] _ _ from ?_)
      by_cases hc5 : (A_cf y 0) = x
      · refine P_aw_icf P_i75_33 ⟨by omega, by omega⟩ ⟨by omega, by omega⟩ (P_ci_nef (by omega)) (show P_aw _ _ _ 36 [.ref (w.2.2 13), P_z x, P_z v, P_z i, .ref (w.2.2 (15 + i.toNat))] [] _ _ from ?_)
        refine P_aw_op (L' := [.ref (w.2.2 13), P_z x, P_z v, P_z i, .ref (w.2.2 (15 + i.toNat))]) (st' := [.ref (w.2.2 (15 + i.toNat))]) P_i75_36 rfl (show P_aw _ _ _ 38 [.ref (w.2.2 13), P_z x, P_z v, P_z i, .ref (w.2.2 (15 + i.toNat))] [.ref (w.2.2 (15 + i.toNat))] _ _ from ?_)
        have hg6 := A_ok_rg hok1
        refine P_aw_getv P_i75_38 (hw.c (by omega)).2 (hw.c (by omega)).1 rfl rfl ((hK.2.2 i 2 (by omega) (by omega) (by omega)).trans (hy 2)) (show P_aw _ _ _ 41 [.ref (w.2.2 13), P_z x, P_z v, P_z i, .ref (w.2.2 (15 + i.toNat))] [P_z (A_cf y 2)] _ _ from ?_)
        refine P_aw_op (L' := [.ref (w.2.2 13), P_z x, P_z v, P_z i, .ref (w.2.2 (15 + i.toNat))]) (st' := [P_z v, P_z (A_cf y 2)]) P_i75_41 rfl (show P_aw _ _ _ 42 [.ref (w.2.2 13), P_z x, P_z v, P_z i, .ref (w.2.2 (15 + i.toNat))] [P_z v, P_z (A_cf y 2)] _ _ from ?_)
        by_cases hc7 : (A_cf y 2) = v
        · refine P_aw_icf P_i75_42 ⟨by omega, by omega⟩ ⟨by omega, by omega⟩ (P_ci_nef (by omega)) (show P_aw _ _ _ 45 [.ref (w.2.2 13), P_z x, P_z v, P_z i, .ref (w.2.2 (15 + i.toNat))] [] _ _ from ?_)
          refine P_aw_op (L' := [.ref (w.2.2 13), P_z x, P_z v, P_z i, .ref (w.2.2 (15 + i.toNat))]) (st' := [P_z 1]) P_i75_45 rfl (show P_aw _ _ _ 46 [.ref (w.2.2 13), P_z x, P_z v, P_z i, .ref (w.2.2 (15 + i.toNat))] [P_z 1] _ _ from ?_)
          refine P_aw_end P_i75_46 rfl rfl (fun _ => rfl) rfl ?_
          exact P_qz (by simp only [A_fx]; rw [if_pos ⟨by omega, by omega, by omega⟩]) rfl q
        · refine P_aw_ict P_i75_42 ⟨by omega, by omega⟩ ⟨by omega, by omega⟩ (P_ci_net (by omega)) (show P_aw _ _ _ 47 [.ref (w.2.2 13), P_z x, P_z v, P_z i, .ref (w.2.2 (15 + i.toNat))] [] _ _ from ?_)
          refine P_aw_op (L' := [.ref (w.2.2 13), P_z x, P_z v, P_z (i + 1), .ref (w.2.2 (15 + i.toNat))]) (st' := []) P_i75_47 (P_o_iinc rfl) (show P_aw _ _ _ 50 [.ref (w.2.2 13), P_z x, P_z v, P_z (i + 1), .ref (w.2.2 (15 + i.toNat))] [] _ _ from ?_)
          refine P_aw_goto P_i75_50 (show P_aw _ _ _ 2 [.ref (w.2.2 13), P_z x, P_z v, P_z (i + 1), P_un] [] _ _ from ?_)
          exact ih σ (A ++ [y]) B (i + 1) (by rw [hvi]; simp) (by omega) (A_app ▸ hK) (A_app ▸ hok) (P_qz (by simp only [A_fx]; rw [if_neg (by omega)]) rfl q)
      · refine P_aw_ict P_i75_33 ⟨by omega, by omega⟩ ⟨by omega, by omega⟩ (P_ci_net (by omega)) (show P_aw _ _ _ 47 [.ref (w.2.2 13), P_z x, P_z v, P_z i, .ref (w.2.2 (15 + i.toNat))] [] _ _ from ?_)
        refine P_aw_op (L' := [.ref (w.2.2 13), P_z x, P_z v, P_z (i + 1), .ref (w.2.2 (15 + i.toNat))]) (st' := []) P_i75_47 (P_o_iinc rfl) (show P_aw _ _ _ 50 [.ref (w.2.2 13), P_z x, P_z v, P_z (i + 1), .ref (w.2.2 (15 + i.toNat))] [] _ _ from ?_)
        refine P_aw_goto P_i75_50 (show P_aw _ _ _ 2 [.ref (w.2.2 13), P_z x, P_z v, P_z (i + 1), P_un] [] _ _ from ?_)
        exact ih σ (A ++ [y]) B (i + 1) (by rw [hvi]; simp) (by omega) (A_app ▸ hK) (A_app ▸ hok) (P_qz (by simp only [A_fx]; rw [if_neg (by omega)]) rfl q)
    · refine P_aw_ict P_i75_24 ⟨by omega, by omega⟩ ⟨by decide, by decide⟩ (P_ci_net (by omega)) (show P_aw _ _ _ 47 [.ref (w.2.2 13), P_z x, P_z v, P_z i, .ref (w.2.2 (15 + i.toNat))] [] _ _ from ?_)
      refine P_aw_op (L' := [.ref (w.2.2 13), P_z x, P_z v, P_z (i + 1), .ref (w.2.2 (15 + i.toNat))]) (st' := []) P_i75_47 (P_o_iinc rfl) (show P_aw _ _ _ 50 [.ref (w.2.2 13), P_z x, P_z v, P_z (i + 1), .ref (w.2.2 (15 + i.toNat))] [] _ _ from ?_)
      refine P_aw_goto P_i75_50 (show P_aw _ _ _ 2 [.ref (w.2.2 13), P_z x, P_z v, P_z (i + 1), P_un] [] _ _ from ?_)
      exact ih σ (A ++ [y]) B (i + 1) (by rw [hvi]; simp) (by omega) (A_app ▸ hK) (A_app ▸ hok) (P_qz (by simp only [A_fx]; rw [if_neg (by omega)]) rfl q)

theorem s_fx {w : P_Lw} (hw : P_Cw w) {d : Nat} {Q : P_R → P_A → Prop} {σ : P_A} {ns x v : Int} {cs : List A_cd} (hx : 0 ≤ x ∧ x ≤ 2000 ∧ 0 ≤ v ∧ v ≤ 2000) (hK : A_KL σ cs) (hok : A_oks ns cs) (q : Q (.inl (some (P_z (A_fx x v cs)))) σ) : P_aw w (d + 2) 75 0 [.ref (w.2.2 13), P_z x, P_z v, P_un, P_un] [] σ Q := by
  refine P_aw_op (L' := [.ref (w.2.2 13), P_z x, P_z v, P_un, P_un]) (st' := [P_z 0]) P_i75_0 rfl (show P_aw _ _ _ 1 [.ref (w.2.2 13), P_z x, P_z v, P_un, P_un] [P_z 0] _ _ from ?_)
  refine P_aw_op (L' := [.ref (w.2.2 13), P_z x, P_z v, P_z 0, P_un]) (st' := []) P_i75_1 rfl (show P_aw _ _ _ 2 [.ref (w.2.2 13), P_z x, P_z v, P_z 0, P_un] [] _ _ from ?_)
  exact s_fxl hw hx cs.length σ [] cs 0 rfl rfl hK hok q

/-- the column that y joins to another, x's -/
def A_pr (y x : A_cd) : Int := if A_cf y 0 = A_cf x 0 then A_cf y 2 else if A_cf y 2 = A_cf x 0 then A_cf y 0 else -1
/-- whether y and x draw a third: y joins two columns, x fixes one, and the other isn't fixed so -/
def A_df (cs : List A_cd) (y x : A_cd) : Prop := (A_cf y 1 = 9 ∧ A_cf y 2 ≤ 199 ∧ A_cf y 0 ≠ A_cf y 2) ∧ (A_cf x 1 = 9 ∧ 1000 ≤ A_cf x 2) ∧ A_pr y x ≠ -1 ∧ A_fx (A_pr y x) (A_cf x 2) cs = 0
theorem A_KL_add {σ : P_A} {cs : List A_cd} {a b c e : Int} (hK : A_KL σ cs) (h : cs.length < 12) : A_KL (P_u2 (A_4 σ (15 + cs.length) a b c e) 13 4 ((cs.length : Int) + 1)) (cs ++ [(a, b, c, e)]) := by
  have hl : ((cs ++ [(a, b, c, e)]).length : Int) = (cs.length : Int) + 1 := by simp
  refine ⟨by rw [P_u2_at, hl], by rw [hl]; omega, fun j f a0 a1 a2 => ?_⟩
  rw [hl] at a1
  rw [P_u2_ne (by omega)]
  by_cases e2 : j = (cs.length : Int)
  · rw [A_lc_mid e2]
    have : j.toNat = cs.length := by omega
    rw [this]
    exact A_4_at (C := A_cf (a, b, c, e)) a2
  · rw [A_4_ne (by omega), hK.2.2 j f a0 (by omega) a2]
    unfold A_lc
    congr 1
    rw [List.getD_eq_getElem?_getD, List.getD_eq_getElem?_getD, List.getElem?_append_left (by omega)]
theorem A_kp_add {σ : P_A} {k : Nat} {a b c e v : Int} (hk : 15 ≤ k ∧ k < 27) : A_kp σ (P_u2 (A_4 σ k a b c e) 13 4 v) := A_kp_tr (A_kp_4 hk) A_kp_s
theorem s_df {w : P_Lw} (hw : P_Cw w) {d : Nat} {Q : P_R → P_A → Prop} {σ : P_A} {ns : Int} {cs : List A_cd} {y x : A_cd} {i j : Int} (hns : σ 6 5 = ns) (hn : 1 ≤ ns ∧ ns ≤ 3) (hK : A_KL σ cs) (hok : A_oks ns cs) (h12 : cs.length < 12) (hi : 0 ≤ i ∧ i < cs.length) (hj : 0 ≤ j ∧ j < cs.length) (hy : ∀ f, A_lc cs i f = A_cf y f) (hx : ∀ f, A_lc cs j f = A_cf x f) (hoy : A_ok ns y) (hox : A_ok ns x)
    (q0 : ¬ A_df cs y x → Q (.inl (some (P_z 0))) σ) (q1 : A_df cs y x → ∀ σ', A_kp σ σ' → A_KL σ' (cs ++ [(A_pr y x, 9, A_cf x 2, ns - 1)]) → Q (.inl (some (P_z 1))) σ') : P_aw w (d + 3) 74 0 [.ref (w.2.2 13), .ref (w.2.2 (15 + i.toNat)), .ref (w.2.2 (15 + j.toNat)), P_un] [] σ Q := by
  have h1 := A_ok_rg hoy
  have h2 := A_ok_rg hox
  have hz := hK.2.1
  refine P_aw_op (L' := [.ref (w.2.2 13), .ref (w.2.2 (15 + i.toNat)), .ref (w.2.2 (15 + j.toNat)), P_un]) (st' := [.ref (w.2.2 (15 + i.toNat))]) P_i74_0 rfl (show P_aw _ _ _ 1 [.ref (w.2.2 13), .ref (w.2.2 (15 + i.toNat)), .ref (w.2.2 (15 + j.toNat)), P_un] [.ref (w.2.2 (15 + i.toNat))] _ _ from ?_)
  refine P_aw_call P_i74_1 rfl rfl (fun _ => rfl) rfl rfl rfl rfl (y2 := 17) (as := [.ref (w.2.2 (15 + i.toNat))]) (r0 := []) (P_inv_v (hw.c (by omega)).2 (hw.c (by omega)).1 rfl rfl) (Nat.le_of_ble_eq_true rfl) (by decide) rfl (Nat.le_of_ble_eq_true rfl) (show P_aw _ _ _ 0 [.ref (w.2.2 (15 + i.toNat))] [] _ _ from ?_)
  refine P_aw_op (L' := [.ref (w.2.2 (15 + i.toNat))]) (st' := [.ref (w.2.2 (15 + i.toNat))]) P_i17_0 rfl (show P_aw _ _ _ 1 [.ref (w.2.2 (15 + i.toNat))] [.ref (w.2.2 (15 + i.toNat))] _ _ from ?_)
  have hg1 := A_ok_rg hoy
  refine P_aw_getv P_i17_1 (hw.c (by omega)).2 (hw.c (by omega)).1 rfl rfl ((hK.2.2 i 1 (by omega) (by omega) (by omega)).trans (hy 1)) (show P_aw _ _ _ 4 [.ref (w.2.2 (15 + i.toNat))] [P_z (A_cf y 1)] _ _ from ?_)
  refine P_aw_op (L' := [.ref (w.2.2 (15 + i.toNat))]) (st' := [P_z 9, P_z (A_cf y 1)]) P_i17_4 (P_o_bi (by decide)) (show P_aw _ _ _ 6 [.ref (w.2.2 (15 + i.toNat))] [P_z 9, P_z (A_cf y 1)] _ _ from ?_)
  by_cases hc2 : (A_cf y 1) = 9
  · refine P_aw_icf P_i17_6 ⟨by omega, by omega⟩ ⟨by decide, by decide⟩ (P_ci_nef (by omega)) (show P_aw _ _ _ 9 [.ref (w.2.2 (15 + i.toNat))] [] _ _ from ?_)
    refine P_aw_op (L' := [.ref (w.2.2 (15 + i.toNat))]) (st' := [.ref (w.2.2 (15 + i.toNat))]) P_i17_9 rfl (show P_aw _ _ _ 10 [.ref (w.2.2 (15 + i.toNat))] [.ref (w.2.2 (15 + i.toNat))] _ _ from ?_)
    have hg3 := A_ok_rg hoy
    refine P_aw_getv P_i17_10 (hw.c (by omega)).2 (hw.c (by omega)).1 rfl rfl ((hK.2.2 i 2 (by omega) (by omega) (by omega)).trans (hy 2)) (show P_aw _ _ _ 13 [.ref (w.2.2 (15 + i.toNat))] [P_z (A_cf y 2)] _ _ from ?_)
    refine P_aw_call P_i17_13 rfl rfl (fun _ => rfl) rfl rfl rfl rfl (y2 := 174) (as := [P_z (A_cf y 2)]) (r0 := []) (fun _ _ => rfl) (Nat.le_of_ble_eq_true rfl) (by decide) rfl (Nat.le_of_ble_eq_true rfl) (show P_aw _ _ _ 0 [P_z (A_cf y 2)] [] _ _ from ?_)
    refine P_aw_op (L' := [P_z (A_cf y 2)]) (st' := [P_z (A_cf y 2)]) P_i174_0 rfl (show P_aw _ _ _ 1 [P_z (A_cf y 2)] [P_z (A_cf y 2)] _ _ from ?_)
    refine P_aw_op (L' := [P_z (A_cf y 2)]) (st' := [P_z 100, P_z (A_cf y 2)]) P_i174_1 (P_o_bi (by decide)) (show P_aw _ _ _ 3 [P_z (A_cf y 2)] [P_z 100, P_z (A_cf y 2)] _ _ from ?_)
    refine P_aw_icf P_i174_3 ⟨by omega, by omega⟩ ⟨by decide, by decide⟩ (P_ci_ltf (by omega)) (show P_aw _ _ _ 6 [P_z (A_cf y 2)] [] _ _ from ?_)
    refine P_aw_op (L' := [P_z (A_cf y 2)]) (st' := [P_z (A_cf y 2)]) P_i174_6 rfl (show P_aw _ _ _ 7 [P_z (A_cf y 2)] [P_z (A_cf y 2)] _ _ from ?_)
    refine P_aw_op (L' := [P_z (A_cf y 2)]) (st' := [P_z 199, P_z (A_cf y 2)]) P_i174_7 (P_o_si (by decide)) (show P_aw _ _ _ 10 [P_z (A_cf y 2)] [P_z 199, P_z (A_cf y 2)] _ _ from ?_)
    rcases Int.lt_or_le 199 (A_cf y 2) with hc4 | hc4
    · refine P_aw_ict P_i174_10 ⟨by omega, by omega⟩ ⟨by decide, by decide⟩ (P_ci_gtt (by omega)) (show P_aw _ _ _ 17 [P_z (A_cf y 2)] [] _ _ from ?_)
      refine P_aw_op (L' := [P_z (A_cf y 2)]) (st' := [P_z 0]) P_i174_17 rfl (show P_aw _ _ _ 18 [P_z (A_cf y 2)] [P_z 0] _ _ from ?_)
      refine P_aw_end P_i174_18 rfl rfl (fun _ => rfl) rfl ?_
      show P_aw _ _ _ 16 [.ref (w.2.2 (15 + i.toNat))] [P_z 0] _ _
      refine P_aw_izt P_i17_16 ⟨by decide, by decide⟩ (P_ci_eqt (by omega)) (show P_aw _ _ _ 34 [.ref (w.2.2 (15 + i.toNat))] [] _ _ from ?_)
      refine P_aw_op (L' := [.ref (w.2.2 (15 + i.toNat))]) (st' := [P_z 0]) P_i17_34 rfl (show P_aw _ _ _ 35 [.ref (w.2.2 (15 + i.toNat))] [P_z 0] _ _ from ?_)
      refine P_aw_end P_i17_35 rfl rfl (fun _ => rfl) rfl ?_
      show P_aw _ _ _ 4 [.ref (w.2.2 13), .ref (w.2.2 (15 + i.toNat)), .ref (w.2.2 (15 + j.toNat)), P_un] [P_z 0] _ _
      refine P_aw_izt P_i74_4 ⟨by decide, by decide⟩ (P_ci_eqt (by omega)) (show P_aw _ _ _ 14 [.ref (w.2.2 13), .ref (w.2.2 (15 + i.toNat)), .ref (w.2.2 (15 + j.toNat)), P_un] [] _ _ from ?_)
      refine P_aw_op (L' := [.ref (w.2.2 13), .ref (w.2.2 (15 + i.toNat)), .ref (w.2.2 (15 + j.toNat)), P_un]) (st' := [P_z 0]) P_i74_14 rfl (show P_aw _ _ _ 15 [.ref (w.2.2 13), .ref (w.2.2 (15 + i.toNat)), .ref (w.2.2 (15 + j.toNat)), P_un] [P_z 0] _ _ from ?_)
      refine P_aw_end P_i74_15 rfl rfl (fun _ => rfl) rfl ?_
      exact q0 (fun h => by simp only [A_df, A_pr] at h; (repeat' split at h) <;> omega)
    · refine P_aw_icf P_i174_10 ⟨by omega, by omega⟩ ⟨by decide, by decide⟩ (P_ci_gtf (by omega)) (show P_aw _ _ _ 13 [P_z (A_cf y 2)] [] _ _ from ?_)
      refine P_aw_op (L' := [P_z (A_cf y 2)]) (st' := [P_z 1]) P_i174_13 rfl (show P_aw _ _ _ 14 [P_z (A_cf y 2)] [P_z 1] _ _ from ?_)
      refine P_aw_goto P_i174_14 (show P_aw _ _ _ 18 [P_z (A_cf y 2)] [P_z 1] _ _ from ?_)
      refine P_aw_end P_i174_18 rfl rfl (fun _ => rfl) rfl ?_
      show P_aw _ _ _ 16 [.ref (w.2.2 (15 + i.toNat))] [P_z 1] _ _
      refine P_aw_izf P_i17_16 ⟨by decide, by decide⟩ (P_ci_eqf (by omega)) (show P_aw _ _ _ 19 [.ref (w.2.2 (15 + i.toNat))] [] _ _ from ?_)
      refine P_aw_op (L' := [.ref (w.2.2 (15 + i.toNat))]) (st' := [.ref (w.2.2 (15 + i.toNat))]) P_i17_19 rfl (show P_aw _ _ _ 20 [.ref (w.2.2 (15 + i.toNat))] [.ref (w.2.2 (15 + i.toNat))] _ _ from ?_)
      have hg5 := A_ok_rg hoy
      refine P_aw_getv P_i17_20 (hw.c (by omega)).2 (hw.c (by omega)).1 rfl rfl ((hK.2.2 i 0 (by omega) (by omega) (by omega)).trans (hy 0)) (show P_aw _ _ _ 23 [.ref (w.2.2 (15 + i.toNat))] [P_z (A_cf y 0)] _ _ from ?_)
      refine P_aw_op (L' := [.ref (w.2.2 (15 + i.toNat))]) (st' := [.ref (w.2.2 (15 + i.toNat)), P_z (A_cf y 0)]) P_i17_23 rfl (show P_aw _ _ _ 24 [.ref (w.2.2 (15 + i.toNat))] [.ref (w.2.2 (15 + i.toNat)), P_z (A_cf y 0)] _ _ from ?_)
      have hg6 := A_ok_rg hoy
      refine P_aw_getv P_i17_24 (hw.c (by omega)).2 (hw.c (by omega)).1 rfl rfl ((hK.2.2 i 2 (by omega) (by omega) (by omega)).trans (hy 2)) (show P_aw _ _ _ 27 [.ref (w.2.2 (15 + i.toNat))] [P_z (A_cf y 2), P_z (A_cf y 0)] _ _ from ?_)
      by_cases hc7 : (A_cf y 0) = (A_cf y 2)
      · refine P_aw_ict P_i17_27 ⟨by omega, by omega⟩ ⟨by omega, by omega⟩ (P_ci_eqt (by omega)) (show P_aw _ _ _ 34 [.ref (w.2.2 (15 + i.toNat))] [] _ _ from ?_)
        refine P_aw_op (L' := [.ref (w.2.2 (15 + i.toNat))]) (st' := [P_z 0]) P_i17_34 rfl (show P_aw _ _ _ 35 [.ref (w.2.2 (15 + i.toNat))] [P_z 0] _ _ from ?_)
        refine P_aw_end P_i17_35 rfl rfl (fun _ => rfl) rfl ?_
        show P_aw _ _ _ 4 [.ref (w.2.2 13), .ref (w.2.2 (15 + i.toNat)), .ref (w.2.2 (15 + j.toNat)), P_un] [P_z 0] _ _
        refine P_aw_izt P_i74_4 ⟨by decide, by decide⟩ (P_ci_eqt (by omega)) (show P_aw _ _ _ 14 [.ref (w.2.2 13), .ref (w.2.2 (15 + i.toNat)), .ref (w.2.2 (15 + j.toNat)), P_un] [] _ _ from ?_)
        refine P_aw_op (L' := [.ref (w.2.2 13), .ref (w.2.2 (15 + i.toNat)), .ref (w.2.2 (15 + j.toNat)), P_un]) (st' := [P_z 0]) P_i74_14 rfl (show P_aw _ _ _ 15 [.ref (w.2.2 13), .ref (w.2.2 (15 + i.toNat)), .ref (w.2.2 (15 + j.toNat)), P_un] [P_z 0] _ _ from ?_)
        refine P_aw_end P_i74_15 rfl rfl (fun _ => rfl) rfl ?_
        exact q0 (fun h => by simp only [A_df, A_pr] at h; (repeat' split at h) <;> omega)
      · refine P_aw_icf P_i17_27 ⟨by omega, by omega⟩ ⟨by omega, by omega⟩ (P_ci_eqf (by omega)) (show P_aw _ _ _ 30 [.ref (w.2.2 (15 + i.toNat))] [] _ _ from ?_)
        refine P_aw_op (L' := [.ref (w.2.2 (15 + i.toNat))]) (st' := [P_z 1]) P_i17_30 rfl (show P_aw _ _ _ 31 [.ref (w.2.2 (15 + i.toNat))] [P_z 1] _ _ from ?_)
        refine P_aw_goto P_i17_31 (show P_aw _ _ _ 35 [.ref (w.2.2 (15 + i.toNat))] [P_z 1] _ _ from ?_)
        refine P_aw_end P_i17_35 rfl rfl (fun _ => rfl) rfl ?_
        show P_aw _ _ _ 4 [.ref (w.2.2 13), .ref (w.2.2 (15 + i.toNat)), .ref (w.2.2 (15 + j.toNat)), P_un] [P_z 1] _ _
        refine P_aw_izf P_i74_4 ⟨by decide, by decide⟩ (P_ci_eqf (by omega)) (show P_aw _ _ _ 7 [.ref (w.2.2 13), .ref (w.2.2 (15 + i.toNat)), .ref (w.2.2 (15 + j.toNat)), P_un] [] _ _ from ?_)
        refine P_aw_op (L' := [.ref (w.2.2 13), .ref (w.2.2 (15 + i.toNat)), .ref (w.2.2 (15 + j.toNat)), P_un]) (st' := [.ref (w.2.2 (15 + j.toNat))]) P_i74_7 rfl (show P_aw _ _ _ 8 [.ref (w.2.2 13), .ref (w.2.2 (15 + i.toNat)), .ref (w.2.2 (15 + j.toNat)), P_un] [.ref (w.2.2 (15 + j.toNat))] _ _ from ?_)
        refine P_aw_call P_i74_8 rfl rfl (fun _ => rfl) rfl rfl rfl rfl (y2 := 18) (as := [.ref (w.2.2 (15 + j.toNat))]) (r0 := []) (P_inv_v (hw.c (by omega)).2 (hw.c (by omega)).1 rfl rfl) (Nat.le_of_ble_eq_true rfl) (by decide) rfl (Nat.le_of_ble_eq_true rfl) (show P_aw _ _ _ 0 [.ref (w.2.2 (15 + j.toNat))] [] _ _ from ?_)
        refine P_aw_op (L' := [.ref (w.2.2 (15 + j.toNat))]) (st' := [.ref (w.2.2 (15 + j.toNat))]) P_i18_0 rfl (show P_aw _ _ _ 1 [.ref (w.2.2 (15 + j.toNat))] [.ref (w.2.2 (15 + j.toNat))] _ _ from ?_)
        have hg8 := A_ok_rg hox
        refine P_aw_getv P_i18_1 (hw.c (by omega)).2 (hw.c (by omega)).1 rfl rfl ((hK.2.2 j 1 (by omega) (by omega) (by omega)).trans (hx 1)) (show P_aw _ _ _ 4 [.ref (w.2.2 (15 + j.toNat))] [P_z (A_cf x 1)] _ _ from ?_)
        refine P_aw_op (L' := [.ref (w.2.2 (15 + j.toNat))]) (st' := [P_z 9, P_z (A_cf x 1)]) P_i18_4 (P_o_bi (by decide)) (show P_aw _ _ _ 6 [.ref (w.2.2 (15 + j.toNat))] [P_z 9, P_z (A_cf x 1)] _ _ from ?_)
        by_cases hc9 : (A_cf x 1) = 9
        · refine P_aw_icf P_i18_6 ⟨by omega, by omega⟩ ⟨by decide, by decide⟩ (P_ci_nef (by omega)) (show P_aw _ _ _ 9 [.ref (w.2.2 (15 + j.toNat))] [] _ _ from ?_)
          refine P_aw_op (L' := [.ref (w.2.2 (15 + j.toNat))]) (st' := [.ref (w.2.2 (15 + j.toNat))]) P_i18_9 rfl (show P_aw _ _ _ 10 [.ref (w.2.2 (15 + j.toNat))] [.ref (w.2.2 (15 + j.toNat))] _ _ from ?_)
          have hg10 := A_ok_rg hox
          refine P_aw_getv P_i18_10 (hw.c (by omega)).2 (hw.c (by omega)).1 rfl rfl ((hK.2.2 j 2 (by omega) (by omega) (by omega)).trans (hx 2)) (show P_aw _ _ _ 13 [.ref (w.2.2 (15 + j.toNat))] [P_z (A_cf x 2)] _ _ from ?_)
          refine P_aw_call P_i18_13 rfl rfl (fun _ => rfl) rfl rfl rfl rfl (y2 := 175) (as := [P_z (A_cf x 2)]) (r0 := []) (fun _ _ => rfl) (Nat.le_of_ble_eq_true rfl) (by decide) rfl (Nat.le_of_ble_eq_true rfl) (show P_aw _ _ _ 0 [P_z (A_cf x 2)] [] _ _ from ?_)
          refine P_aw_op (L' := [P_z (A_cf x 2)]) (st' := [P_z (A_cf x 2)]) P_i175_0 rfl (show P_aw _ _ _ 1 [P_z (A_cf x 2)] [P_z (A_cf x 2)] _ _ from ?_)
          refine P_aw_op (L' := [P_z (A_cf x 2)]) (st' := [P_z 1000, P_z (A_cf x 2)]) P_i175_1 (P_o_si (by decide)) (show P_aw _ _ _ 4 [P_z (A_cf x 2)] [P_z 1000, P_z (A_cf x 2)] _ _ from ?_)
          rcases Int.lt_or_le (A_cf x 2) 1000 with hc11 | hc11
          · refine P_aw_ict P_i175_4 ⟨by omega, by omega⟩ ⟨by decide, by decide⟩ (P_ci_ltt (by omega)) (show P_aw _ _ _ 18 [P_z (A_cf x 2)] [] _ _ from ?_)
            refine P_aw_op (L' := [P_z (A_cf x 2)]) (st' := [P_z 0]) P_i175_18 rfl (show P_aw _ _ _ 19 [P_z (A_cf x 2)] [P_z 0] _ _ from ?_)
            refine P_aw_end P_i175_19 rfl rfl (fun _ => rfl) rfl ?_
            show P_aw _ _ _ 16 [.ref (w.2.2 (15 + j.toNat))] [P_z 0] _ _
            refine P_aw_izt P_i18_16 ⟨by decide, by decide⟩ (P_ci_eqt (by omega)) (show P_aw _ _ _ 23 [.ref (w.2.2 (15 + j.toNat))] [] _ _ from ?_)
            refine P_aw_op (L' := [.ref (w.2.2 (15 + j.toNat))]) (st' := [P_z 0]) P_i18_23 rfl (show P_aw _ _ _ 24 [.ref (w.2.2 (15 + j.toNat))] [P_z 0] _ _ from ?_)
            refine P_aw_end P_i18_24 rfl rfl (fun _ => rfl) rfl ?_
            show P_aw _ _ _ 11 [.ref (w.2.2 13), .ref (w.2.2 (15 + i.toNat)), .ref (w.2.2 (15 + j.toNat)), P_un] [P_z 0] _ _
            refine P_aw_izf P_i74_11 ⟨by decide, by decide⟩ (P_ci_nef (by omega)) (show P_aw _ _ _ 14 [.ref (w.2.2 13), .ref (w.2.2 (15 + i.toNat)), .ref (w.2.2 (15 + j.toNat)), P_un] [] _ _ from ?_)
            refine P_aw_op (L' := [.ref (w.2.2 13), .ref (w.2.2 (15 + i.toNat)), .ref (w.2.2 (15 + j.toNat)), P_un]) (st' := [P_z 0]) P_i74_14 rfl (show P_aw _ _ _ 15 [.ref (w.2.2 13), .ref (w.2.2 (15 + i.toNat)), .ref (w.2.2 (15 + j.toNat)), P_un] [P_z 0] _ _ from ?_)
            refine P_aw_end P_i74_15 rfl rfl (fun _ => rfl) rfl ?_
            exact q0 (fun h => by simp only [A_df, A_pr] at h; (repeat' split at h) <;> omega)
          · refine P_aw_icf P_i175_4 ⟨by omega, by omega⟩ ⟨by decide, by decide⟩ (P_ci_ltf (by omega)) (show P_aw _ _ _ 7 [P_z (A_cf x 2)] [] _ _ from ?_)
            refine P_aw_op (L' := [P_z (A_cf x 2)]) (st' := [P_z (A_cf x 2)]) P_i175_7 rfl (show P_aw _ _ _ 8 [P_z (A_cf x 2)] [P_z (A_cf x 2)] _ _ from ?_)
            refine P_aw_op (L' := [P_z (A_cf x 2)]) (st' := [P_z 1999, P_z (A_cf x 2)]) P_i175_8 (P_o_si (by decide)) (show P_aw _ _ _ 11 [P_z (A_cf x 2)] [P_z 1999, P_z (A_cf x 2)] _ _ from ?_)
            refine P_aw_icf P_i175_11 ⟨by omega, by omega⟩ ⟨by decide, by decide⟩ (P_ci_gtf (by omega)) (show P_aw _ _ _ 14 [P_z (A_cf x 2)] [] _ _ from ?_)
            refine P_aw_op (L' := [P_z (A_cf x 2)]) (st' := [P_z 1]) P_i175_14 rfl (show P_aw _ _ _ 15 [P_z (A_cf x 2)] [P_z 1] _ _ from ?_)
            refine P_aw_goto P_i175_15 (show P_aw _ _ _ 19 [P_z (A_cf x 2)] [P_z 1] _ _ from ?_)
            refine P_aw_end P_i175_19 rfl rfl (fun _ => rfl) rfl ?_
            show P_aw _ _ _ 16 [.ref (w.2.2 (15 + j.toNat))] [P_z 1] _ _
            refine P_aw_izf P_i18_16 ⟨by decide, by decide⟩ (P_ci_eqf (by omega)) (show P_aw _ _ _ 19 [.ref (w.2.2 (15 + j.toNat))] [] _ _ from ?_)
            refine P_aw_op (L' := [.ref (w.2.2 (15 + j.toNat))]) (st' := [P_z 1]) P_i18_19 rfl (show P_aw _ _ _ 20 [.ref (w.2.2 (15 + j.toNat))] [P_z 1] _ _ from ?_)
            refine P_aw_goto P_i18_20 (show P_aw _ _ _ 24 [.ref (w.2.2 (15 + j.toNat))] [P_z 1] _ _ from ?_)
            refine P_aw_end P_i18_24 rfl rfl (fun _ => rfl) rfl ?_
            show P_aw _ _ _ 11 [.ref (w.2.2 13), .ref (w.2.2 (15 + i.toNat)), .ref (w.2.2 (15 + j.toNat)), P_un] [P_z 1] _ _
            refine P_aw_izt P_i74_11 ⟨by decide, by decide⟩ (P_ci_net (by omega)) (show P_aw _ _ _ 16 [.ref (w.2.2 13), .ref (w.2.2 (15 + i.toNat)), .ref (w.2.2 (15 + j.toNat)), P_un] [] _ _ from ?_)
            refine P_aw_op (L' := [.ref (w.2.2 13), .ref (w.2.2 (15 + i.toNat)), .ref (w.2.2 (15 + j.toNat)), P_un]) (st' := [.ref (w.2.2 (15 + i.toNat))]) P_i74_16 rfl (show P_aw _ _ _ 17 [.ref (w.2.2 13), .ref (w.2.2 (15 + i.toNat)), .ref (w.2.2 (15 + j.toNat)), P_un] [.ref (w.2.2 (15 + i.toNat))] _ _ from ?_)
            refine P_aw_op (L' := [.ref (w.2.2 13), .ref (w.2.2 (15 + i.toNat)), .ref (w.2.2 (15 + j.toNat)), P_un]) (st' := [.ref (w.2.2 (15 + j.toNat)), .ref (w.2.2 (15 + i.toNat))]) P_i74_17 rfl (show P_aw _ _ _ 18 [.ref (w.2.2 13), .ref (w.2.2 (15 + i.toNat)), .ref (w.2.2 (15 + j.toNat)), P_un] [.ref (w.2.2 (15 + j.toNat)), .ref (w.2.2 (15 + i.toNat))] _ _ from ?_)
            have hg12 := A_ok_rg hox
            refine P_aw_getv P_i74_18 (hw.c (by omega)).2 (hw.c (by omega)).1 rfl rfl ((hK.2.2 j 0 (by omega) (by omega) (by omega)).trans (hx 0)) (show P_aw _ _ _ 21 [.ref (w.2.2 13), .ref (w.2.2 (15 + i.toNat)), .ref (w.2.2 (15 + j.toNat)), P_un] [P_z (A_cf x 0), .ref (w.2.2 (15 + i.toNat))] _ _ from ?_)
            refine P_aw_call P_i74_21 rfl rfl (fun _ => rfl) rfl rfl rfl rfl (y2 := 19) (as := [.ref (w.2.2 (15 + i.toNat)), P_z (A_cf x 0)]) (r0 := []) (P_inv_v (hw.c (by omega)).2 (hw.c (by omega)).1 rfl rfl) (Nat.le_of_ble_eq_true rfl) (by decide) rfl (Nat.le_of_ble_eq_true rfl) (show P_aw _ _ _ 0 [.ref (w.2.2 (15 + i.toNat)), P_z (A_cf x 0)] [] _ _ from ?_)
            refine P_aw_op (L' := [.ref (w.2.2 (15 + i.toNat)), P_z (A_cf x 0)]) (st' := [.ref (w.2.2 (15 + i.toNat))]) P_i19_0 rfl (show P_aw _ _ _ 1 [.ref (w.2.2 (15 + i.toNat)), P_z (A_cf x 0)] [.ref (w.2.2 (15 + i.toNat))] _ _ from ?_)
            have hg13 := A_ok_rg hoy
            refine P_aw_getv P_i19_1 (hw.c (by omega)).2 (hw.c (by omega)).1 rfl rfl ((hK.2.2 i 0 (by omega) (by omega) (by omega)).trans (hy 0)) (show P_aw _ _ _ 4 [.ref (w.2.2 (15 + i.toNat)), P_z (A_cf x 0)] [P_z (A_cf y 0)] _ _ from ?_)
            refine P_aw_op (L' := [.ref (w.2.2 (15 + i.toNat)), P_z (A_cf x 0)]) (st' := [P_z (A_cf x 0), P_z (A_cf y 0)]) P_i19_4 rfl (show P_aw _ _ _ 5 [.ref (w.2.2 (15 + i.toNat)), P_z (A_cf x 0)] [P_z (A_cf x 0), P_z (A_cf y 0)] _ _ from ?_)
            by_cases hc14 : (A_cf y 0) = (A_cf x 0)
            · refine P_aw_icf P_i19_5 ⟨by omega, by omega⟩ ⟨by omega, by omega⟩ (P_ci_nef (by omega)) (show P_aw _ _ _ 8 [.ref (w.2.2 (15 + i.toNat)), P_z (A_cf x 0)] [] _ _ from ?_)
              refine P_aw_op (L' := [.ref (w.2.2 (15 + i.toNat)), P_z (A_cf x 0)]) (st' := [.ref (w.2.2 (15 + i.toNat))]) P_i19_8 rfl (show P_aw _ _ _ 9 [.ref (w.2.2 (15 + i.toNat)), P_z (A_cf x 0)] [.ref (w.2.2 (15 + i.toNat))] _ _ from ?_)
              have hg15 := A_ok_rg hoy
              refine P_aw_getv P_i19_9 (hw.c (by omega)).2 (hw.c (by omega)).1 rfl rfl ((hK.2.2 i 2 (by omega) (by omega) (by omega)).trans (hy 2)) (show P_aw _ _ _ 12 [.ref (w.2.2 (15 + i.toNat)), P_z (A_cf x 0)] [P_z (A_cf y 2)] _ _ from ?_)
              refine P_aw_end P_i19_12 rfl rfl (fun _ => rfl) rfl ?_
              show P_aw _ _ _ 24 [.ref (w.2.2 13), .ref (w.2.2 (15 + i.toNat)), .ref (w.2.2 (15 + j.toNat)), P_un] [P_z (A_cf y 2)] _ _
              refine P_aw_op (L' := [.ref (w.2.2 13), .ref (w.2.2 (15 + i.toNat)), .ref (w.2.2 (15 + j.toNat)), P_z (A_cf y 2)]) (st' := []) P_i74_24 rfl (show P_aw _ _ _ 25 [.ref (w.2.2 13), .ref (w.2.2 (15 + i.toNat)), .ref (w.2.2 (15 + j.toNat)), P_z (A_cf y 2)] [] _ _ from ?_)
              refine P_aw_op (L' := [.ref (w.2.2 13), .ref (w.2.2 (15 + i.toNat)), .ref (w.2.2 (15 + j.toNat)), P_z (A_cf y 2)]) (st' := [P_z (A_cf y 2)]) P_i74_25 rfl (show P_aw _ _ _ 26 [.ref (w.2.2 13), .ref (w.2.2 (15 + i.toNat)), .ref (w.2.2 (15 + j.toNat)), P_z (A_cf y 2)] [P_z (A_cf y 2)] _ _ from ?_)
              refine P_aw_op (L' := [.ref (w.2.2 13), .ref (w.2.2 (15 + i.toNat)), .ref (w.2.2 (15 + j.toNat)), P_z (A_cf y 2)]) (st' := [P_z (-1), P_z (A_cf y 2)]) P_i74_26 rfl (show P_aw _ _ _ 27 [.ref (w.2.2 13), .ref (w.2.2 (15 + i.toNat)), .ref (w.2.2 (15 + j.toNat)), P_z (A_cf y 2)] [P_z (-1), P_z (A_cf y 2)] _ _ from ?_)
              refine P_aw_icf P_i74_27 ⟨by omega, by omega⟩ ⟨by decide, by decide⟩ (P_ci_eqf (by omega)) (show P_aw _ _ _ 30 [.ref (w.2.2 13), .ref (w.2.2 (15 + i.toNat)), .ref (w.2.2 (15 + j.toNat)), P_z (A_cf y 2)] [] _ _ from ?_)
              refine P_aw_op (L' := [.ref (w.2.2 13), .ref (w.2.2 (15 + i.toNat)), .ref (w.2.2 (15 + j.toNat)), P_z (A_cf y 2)]) (st' := [.ref (w.2.2 13)]) P_i74_30 rfl (show P_aw _ _ _ 31 [.ref (w.2.2 13), .ref (w.2.2 (15 + i.toNat)), .ref (w.2.2 (15 + j.toNat)), P_z (A_cf y 2)] [.ref (w.2.2 13)] _ _ from ?_)
              refine P_aw_op (L' := [.ref (w.2.2 13), .ref (w.2.2 (15 + i.toNat)), .ref (w.2.2 (15 + j.toNat)), P_z (A_cf y 2)]) (st' := [P_z (A_cf y 2), .ref (w.2.2 13)]) P_i74_31 rfl (show P_aw _ _ _ 32 [.ref (w.2.2 13), .ref (w.2.2 (15 + i.toNat)), .ref (w.2.2 (15 + j.toNat)), P_z (A_cf y 2)] [P_z (A_cf y 2), .ref (w.2.2 13)] _ _ from ?_)
              refine P_aw_op (L' := [.ref (w.2.2 13), .ref (w.2.2 (15 + i.toNat)), .ref (w.2.2 (15 + j.toNat)), P_z (A_cf y 2)]) (st' := [.ref (w.2.2 (15 + j.toNat)), P_z (A_cf y 2), .ref (w.2.2 13)]) P_i74_32 rfl (show P_aw _ _ _ 33 [.ref (w.2.2 13), .ref (w.2.2 (15 + i.toNat)), .ref (w.2.2 (15 + j.toNat)), P_z (A_cf y 2)] [.ref (w.2.2 (15 + j.toNat)), P_z (A_cf y 2), .ref (w.2.2 13)] _ _ from ?_)
              have hg16 := A_ok_rg hox
              refine P_aw_getv P_i74_33 (hw.c (by omega)).2 (hw.c (by omega)).1 rfl rfl ((hK.2.2 j 2 (by omega) (by omega) (by omega)).trans (hx 2)) (show P_aw _ _ _ 36 [.ref (w.2.2 13), .ref (w.2.2 (15 + i.toNat)), .ref (w.2.2 (15 + j.toNat)), P_z (A_cf y 2)] [P_z (A_cf x 2), P_z (A_cf y 2), .ref (w.2.2 13)] _ _ from ?_)
              have hp17 := A_fx_rg (x := (A_cf y 2)) (v := (A_cf x 2)) cs
              refine P_aw_call P_i74_36 rfl rfl (fun _ => rfl) rfl rfl rfl rfl (y2 := 75) (as := [.ref (w.2.2 13), P_z (A_cf y 2), P_z (A_cf x 2)]) (r0 := []) (P_inv_v (hw.2.1 13 (by decide)) (hw.s rfl) rfl rfl) (Nat.le_of_ble_eq_true rfl) (by decide) rfl (Nat.le_of_ble_eq_true rfl) (s_fx hw (by omega) hK hok ?_)
              show P_aw _ _ _ 39 [.ref (w.2.2 13), .ref (w.2.2 (15 + i.toNat)), .ref (w.2.2 (15 + j.toNat)), P_z (A_cf y 2)] [P_z (A_fx (A_cf y 2) (A_cf x 2) cs)] _ _
              by_cases hc18 : (A_fx (A_cf y 2) (A_cf x 2) cs) = 0
              · refine P_aw_izt P_i74_39 ⟨by omega, by omega⟩ (P_ci_eqt (by omega)) (show P_aw _ _ _ 44 [.ref (w.2.2 13), .ref (w.2.2 (15 + i.toNat)), .ref (w.2.2 (15 + j.toNat)), P_z (A_cf y 2)] [] _ _ from ?_)
                refine P_aw_op (L' := [.ref (w.2.2 13), .ref (w.2.2 (15 + i.toNat)), .ref (w.2.2 (15 + j.toNat)), P_z (A_cf y 2)]) (st' := [.ref (w.2.2 13)]) P_i74_44 rfl (show P_aw _ _ _ 45 [.ref (w.2.2 13), .ref (w.2.2 (15 + i.toNat)), .ref (w.2.2 (15 + j.toNat)), P_z (A_cf y 2)] [.ref (w.2.2 13)] _ _ from ?_)
                refine P_aw_op (L' := [.ref (w.2.2 13), .ref (w.2.2 (15 + i.toNat)), .ref (w.2.2 (15 + j.toNat)), P_z (A_cf y 2)]) (st' := [P_z (A_cf y 2), .ref (w.2.2 13)]) P_i74_45 rfl (show P_aw _ _ _ 46 [.ref (w.2.2 13), .ref (w.2.2 (15 + i.toNat)), .ref (w.2.2 (15 + j.toNat)), P_z (A_cf y 2)] [P_z (A_cf y 2), .ref (w.2.2 13)] _ _ from ?_)
                refine P_aw_op (L' := [.ref (w.2.2 13), .ref (w.2.2 (15 + i.toNat)), .ref (w.2.2 (15 + j.toNat)), P_z (A_cf y 2)]) (st' := [P_z 9, P_z (A_cf y 2), .ref (w.2.2 13)]) P_i74_46 (P_o_bi (by decide)) (show P_aw _ _ _ 48 [.ref (w.2.2 13), .ref (w.2.2 (15 + i.toNat)), .ref (w.2.2 (15 + j.toNat)), P_z (A_cf y 2)] [P_z 9, P_z (A_cf y 2), .ref (w.2.2 13)] _ _ from ?_)
                refine P_aw_op (L' := [.ref (w.2.2 13), .ref (w.2.2 (15 + i.toNat)), .ref (w.2.2 (15 + j.toNat)), P_z (A_cf y 2)]) (st' := [.ref (w.2.2 (15 + j.toNat)), P_z 9, P_z (A_cf y 2), .ref (w.2.2 13)]) P_i74_48 rfl (show P_aw _ _ _ 49 [.ref (w.2.2 13), .ref (w.2.2 (15 + i.toNat)), .ref (w.2.2 (15 + j.toNat)), P_z (A_cf y 2)] [.ref (w.2.2 (15 + j.toNat)), P_z 9, P_z (A_cf y 2), .ref (w.2.2 13)] _ _ from ?_)
                have hg19 := A_ok_rg hox
                refine P_aw_getv P_i74_49 (hw.c (by omega)).2 (hw.c (by omega)).1 rfl rfl ((hK.2.2 j 2 (by omega) (by omega) (by omega)).trans (hx 2)) (show P_aw _ _ _ 52 [.ref (w.2.2 13), .ref (w.2.2 (15 + i.toNat)), .ref (w.2.2 (15 + j.toNat)), P_z (A_cf y 2)] [P_z (A_cf x 2), P_z 9, P_z (A_cf y 2), .ref (w.2.2 13)] _ _ from ?_)
                refine P_aw_call P_i74_52 rfl rfl (fun _ => rfl) rfl rfl rfl rfl (y2 := 60) (as := [.ref (w.2.2 13), P_z (A_cf y 2), P_z 9, P_z (A_cf x 2)]) (r0 := []) (P_inv_v (hw.2.1 13 (by decide)) (hw.s rfl) rfl rfl) (Nat.le_of_ble_eq_true rfl) (by decide) rfl (Nat.le_of_ble_eq_true rfl) (show P_aw _ _ _ 0 [.ref (w.2.2 13), P_z (A_cf y 2), P_z 9, P_z (A_cf x 2)] [] _ _ from ?_)
                refine P_aw_op (L' := [.ref (w.2.2 13), P_z (A_cf y 2), P_z 9, P_z (A_cf x 2)]) (st' := [.ref (w.2.2 13)]) P_i60_0 rfl (show P_aw _ _ _ 1 [.ref (w.2.2 13), P_z (A_cf y 2), P_z 9, P_z (A_cf x 2)] [.ref (w.2.2 13)] _ _ from ?_)
                have hg20 := hK.2.1
                refine P_aw_getv P_i60_1 (hw.2.1 13 (by decide)) (hw.s rfl) rfl rfl (hK.1) (show P_aw _ _ _ 4 [.ref (w.2.2 13), P_z (A_cf y 2), P_z 9, P_z (A_cf x 2)] [P_z (cs.length : Int)] _ _ from ?_)
                refine P_aw_op (L' := [.ref (w.2.2 13), P_z (A_cf y 2), P_z 9, P_z (A_cf x 2)]) (st' := [.ref (w.2.2 13), P_z (cs.length : Int)]) P_i60_4 rfl (show P_aw _ _ _ 5 [.ref (w.2.2 13), P_z (A_cf y 2), P_z 9, P_z (A_cf x 2)] [.ref (w.2.2 13), P_z (cs.length : Int)] _ _ from ?_)
                refine P_aw_getR P_i60_5 (hw.2.1 13 (by decide)) (hw.s rfl) rfl rfl (show P_aw _ _ _ 8 [.ref (w.2.2 13), P_z (A_cf y 2), P_z 9, P_z (A_cf x 2)] [.ref (w.2.2 14), P_z (cs.length : Int)] _ _ from ?_)
                refine P_aw_clen P_i60_8 (hw.2.1 14 (by decide)) (hw.s rfl) rfl (show P_aw _ _ _ 9 [.ref (w.2.2 13), P_z (A_cf y 2), P_z 9, P_z (A_cf x 2)] [P_z 12, P_z (cs.length : Int)] _ _ from ?_)
                refine P_aw_icf P_i60_9 ⟨by omega, by omega⟩ ⟨by decide, by decide⟩ (P_ci_gef (by omega)) (show P_aw _ _ _ 12 [.ref (w.2.2 13), P_z (A_cf y 2), P_z 9, P_z (A_cf x 2)] [] _ _ from ?_)
                refine P_aw_op (L' := [.ref (w.2.2 13), P_z (A_cf y 2), P_z 9, P_z (A_cf x 2)]) (st' := [.ref (w.2.2 13)]) P_i60_12 rfl (show P_aw _ _ _ 13 [.ref (w.2.2 13), P_z (A_cf y 2), P_z 9, P_z (A_cf x 2)] [.ref (w.2.2 13)] _ _ from ?_)
                refine P_aw_op (L' := [.ref (w.2.2 13), P_z (A_cf y 2), P_z 9, P_z (A_cf x 2)]) (st' := [.ref (w.2.2 13), .ref (w.2.2 13)]) P_i60_13 rfl (show P_aw _ _ _ 14 [.ref (w.2.2 13), P_z (A_cf y 2), P_z 9, P_z (A_cf x 2)] [.ref (w.2.2 13), .ref (w.2.2 13)] _ _ from ?_)
                have hg21 := hK.2.1
                refine P_aw_getv P_i60_14 (hw.2.1 13 (by decide)) (hw.s rfl) rfl rfl (hK.1) (show P_aw _ _ _ 17 [.ref (w.2.2 13), P_z (A_cf y 2), P_z 9, P_z (A_cf x 2)] [P_z (cs.length : Int), .ref (w.2.2 13)] _ _ from ?_)
                refine P_aw_call P_i60_17 rfl rfl (fun _ => rfl) rfl rfl rfl rfl (y2 := 59) (as := [.ref (w.2.2 13), P_z (cs.length : Int)]) (r0 := []) (P_inv_v (hw.2.1 13 (by decide)) (hw.s rfl) rfl rfl) (Nat.le_of_ble_eq_true rfl) (by decide) rfl (Nat.le_of_ble_eq_true rfl) (show P_aw _ _ _ 0 [.ref (w.2.2 13), P_z (cs.length : Int), P_un] [] _ _ from ?_)
                refine P_aw_op (L' := [.ref (w.2.2 13), P_z (cs.length : Int), P_un]) (st' := [P_z (cs.length : Int)]) P_i59_0 rfl (show P_aw _ _ _ 1 [.ref (w.2.2 13), P_z (cs.length : Int), P_un] [P_z (cs.length : Int)] _ _ from ?_)
                refine P_aw_izf P_i59_1 ⟨by omega, by omega⟩ (P_ci_ltf (by omega)) (show P_aw _ _ _ 4 [.ref (w.2.2 13), P_z (cs.length : Int), P_un] [] _ _ from ?_)
                refine P_aw_op (L' := [.ref (w.2.2 13), P_z (cs.length : Int), P_un]) (st' := [P_z (cs.length : Int)]) P_i59_4 rfl (show P_aw _ _ _ 5 [.ref (w.2.2 13), P_z (cs.length : Int), P_un] [P_z (cs.length : Int)] _ _ from ?_)
                refine P_aw_op (L' := [.ref (w.2.2 13), P_z (cs.length : Int), P_un]) (st' := [.ref (w.2.2 13), P_z (cs.length : Int)]) P_i59_5 rfl (show P_aw _ _ _ 6 [.ref (w.2.2 13), P_z (cs.length : Int), P_un] [.ref (w.2.2 13), P_z (cs.length : Int)] _ _ from ?_)
                refine P_aw_getR P_i59_6 (hw.2.1 13 (by decide)) (hw.s rfl) rfl rfl (show P_aw _ _ _ 9 [.ref (w.2.2 13), P_z (cs.length : Int), P_un] [.ref (w.2.2 14), P_z (cs.length : Int)] _ _ from ?_)
                refine P_aw_clen P_i59_9 (hw.2.1 14 (by decide)) (hw.s rfl) rfl (show P_aw _ _ _ 10 [.ref (w.2.2 13), P_z (cs.length : Int), P_un] [P_z 12, P_z (cs.length : Int)] _ _ from ?_)
                refine P_aw_ict P_i59_10 ⟨by omega, by omega⟩ ⟨by decide, by decide⟩ (P_ci_ltt (by omega)) (show P_aw _ _ _ 18 [.ref (w.2.2 13), P_z (cs.length : Int), P_un] [] _ _ from ?_)
                refine P_aw_op (L' := [.ref (w.2.2 13), P_z (cs.length : Int), P_un]) (st' := [.ref (w.2.2 13)]) P_i59_18 rfl (show P_aw _ _ _ 19 [.ref (w.2.2 13), P_z (cs.length : Int), P_un] [.ref (w.2.2 13)] _ _ from ?_)
                refine P_aw_getR P_i59_19 (hw.2.1 13 (by decide)) (hw.s rfl) rfl rfl (show P_aw _ _ _ 22 [.ref (w.2.2 13), P_z (cs.length : Int), P_un] [.ref (w.2.2 14)] _ _ from ?_)
                refine P_aw_op (L' := [.ref (w.2.2 13), P_z (cs.length : Int), P_un]) (st' := [P_z (cs.length : Int), .ref (w.2.2 14)]) P_i59_22 rfl (show P_aw _ _ _ 23 [.ref (w.2.2 13), P_z (cs.length : Int), P_un] [P_z (cs.length : Int), .ref (w.2.2 14)] _ _ from ?_)
                refine P_aw_cld P_i59_23 (hw.2.1 14 (by decide)) (hw.s rfl) (by decide) (by omega) (P_c12 (by omega)) (by decide) (show P_aw _ _ _ 24 [.ref (w.2.2 13), P_z (cs.length : Int), P_un] [.ref (w.2.2 (15 + (cs.length : Int).toNat))] _ _ from ?_)
                refine P_aw_op (L' := [.ref (w.2.2 13), P_z (cs.length : Int), .ref (w.2.2 (15 + (cs.length : Int).toNat))]) (st' := []) P_i59_24 rfl (show P_aw _ _ _ 25 [.ref (w.2.2 13), P_z (cs.length : Int), .ref (w.2.2 (15 + (cs.length : Int).toNat))] [] _ _ from ?_)
                refine P_aw_op (L' := [.ref (w.2.2 13), P_z (cs.length : Int), .ref (w.2.2 (15 + (cs.length : Int).toNat))]) (st' := [.ref (w.2.2 (15 + (cs.length : Int).toNat))]) P_i59_25 rfl (show P_aw _ _ _ 26 [.ref (w.2.2 13), P_z (cs.length : Int), .ref (w.2.2 (15 + (cs.length : Int).toNat))] [.ref (w.2.2 (15 + (cs.length : Int).toNat))] _ _ from ?_)
                refine P_aw_brt P_i59_26 rfl (show P_aw _ _ _ 36 [.ref (w.2.2 13), P_z (cs.length : Int), .ref (w.2.2 (15 + (cs.length : Int).toNat))] [] _ _ from ?_)
                refine P_aw_op (L' := [.ref (w.2.2 13), P_z (cs.length : Int), .ref (w.2.2 (15 + (cs.length : Int).toNat))]) (st' := [.ref (w.2.2 (15 + (cs.length : Int).toNat))]) P_i59_36 rfl (show P_aw _ _ _ 37 [.ref (w.2.2 13), P_z (cs.length : Int), .ref (w.2.2 (15 + (cs.length : Int).toNat))] [.ref (w.2.2 (15 + (cs.length : Int).toNat))] _ _ from ?_)
                refine P_aw_end P_i59_37 rfl rfl (fun _ => rfl) rfl ?_
                show P_aw _ _ _ 20 [.ref (w.2.2 13), P_z (A_cf y 2), P_z 9, P_z (A_cf x 2)] [.ref (w.2.2 (15 + (cs.length : Int).toNat))] _ _
                refine P_aw_op (L' := [.ref (w.2.2 13), P_z (A_cf y 2), P_z 9, P_z (A_cf x 2)]) (st' := [P_z (A_cf y 2), .ref (w.2.2 (15 + (cs.length : Int).toNat))]) P_i60_20 rfl (show P_aw _ _ _ 21 [.ref (w.2.2 13), P_z (A_cf y 2), P_z 9, P_z (A_cf x 2)] [P_z (A_cf y 2), .ref (w.2.2 (15 + (cs.length : Int).toNat))] _ _ from ?_)
                refine P_aw_op (L' := [.ref (w.2.2 13), P_z (A_cf y 2), P_z 9, P_z (A_cf x 2)]) (st' := [P_z 9, P_z (A_cf y 2), .ref (w.2.2 (15 + (cs.length : Int).toNat))]) P_i60_21 rfl (show P_aw _ _ _ 22 [.ref (w.2.2 13), P_z (A_cf y 2), P_z 9, P_z (A_cf x 2)] [P_z 9, P_z (A_cf y 2), .ref (w.2.2 (15 + (cs.length : Int).toNat))] _ _ from ?_)
                refine P_aw_op (L' := [.ref (w.2.2 13), P_z (A_cf y 2), P_z 9, P_z (A_cf x 2)]) (st' := [P_z (A_cf x 2), P_z 9, P_z (A_cf y 2), .ref (w.2.2 (15 + (cs.length : Int).toNat))]) P_i60_22 rfl (show P_aw _ _ _ 23 [.ref (w.2.2 13), P_z (A_cf y 2), P_z 9, P_z (A_cf x 2)] [P_z (A_cf x 2), P_z 9, P_z (A_cf y 2), .ref (w.2.2 (15 + (cs.length : Int).toNat))] _ _ from ?_)
                refine P_aw_op (L' := [.ref (w.2.2 13), P_z (A_cf y 2), P_z 9, P_z (A_cf x 2)]) (st' := [.ref (w.2.2 13), P_z (A_cf x 2), P_z 9, P_z (A_cf y 2), .ref (w.2.2 (15 + (cs.length : Int).toNat))]) P_i60_23 rfl (show P_aw _ _ _ 24 [.ref (w.2.2 13), P_z (A_cf y 2), P_z 9, P_z (A_cf x 2)] [.ref (w.2.2 13), P_z (A_cf x 2), P_z 9, P_z (A_cf y 2), .ref (w.2.2 (15 + (cs.length : Int).toNat))] _ _ from ?_)
                refine P_aw_getR P_i60_24 (hw.2.1 13 (by decide)) (hw.s rfl) rfl rfl (show P_aw _ _ _ 27 [.ref (w.2.2 13), P_z (A_cf y 2), P_z 9, P_z (A_cf x 2)] [.ref (w.2.2 6), P_z (A_cf x 2), P_z 9, P_z (A_cf y 2), .ref (w.2.2 (15 + (cs.length : Int).toNat))] _ _ from ?_)
                refine P_aw_call P_i60_27 rfl rfl (fun _ => rfl) rfl rfl rfl rfl (y2 := 30) (as := [.ref (w.2.2 6)]) (r0 := [P_z (A_cf x 2), P_z 9, P_z (A_cf y 2), .ref (w.2.2 (15 + (cs.length : Int).toNat))]) (P_inv_v (hw.2.1 6 (by decide)) (hw.s rfl) rfl rfl) (Nat.le_of_ble_eq_true rfl) (by decide) rfl (Nat.le_of_ble_eq_true rfl) (show P_aw _ _ _ 0 [.ref (w.2.2 6)] [] _ _ from ?_)
                refine P_aw_op (L' := [.ref (w.2.2 6)]) (st' := [.ref (w.2.2 6)]) P_i30_0 rfl (show P_aw _ _ _ 1 [.ref (w.2.2 6)] [.ref (w.2.2 6)] _ _ from ?_)
                refine P_aw_getv P_i30_1 (hw.2.1 6 (by decide)) (hw.s rfl) rfl rfl (hns) (show P_aw _ _ _ 4 [.ref (w.2.2 6)] [P_z ns] _ _ from ?_)
                refine P_aw_end P_i30_4 rfl rfl (fun _ => rfl) rfl ?_
                show P_aw _ _ _ 30 [.ref (w.2.2 13), P_z (A_cf y 2), P_z 9, P_z (A_cf x 2)] [P_z ns, P_z (A_cf x 2), P_z 9, P_z (A_cf y 2), .ref (w.2.2 (15 + (cs.length : Int).toNat))] _ _
                refine P_aw_op (L' := [.ref (w.2.2 13), P_z (A_cf y 2), P_z 9, P_z (A_cf x 2)]) (st' := [P_z 1, P_z ns, P_z (A_cf x 2), P_z 9, P_z (A_cf y 2), .ref (w.2.2 (15 + (cs.length : Int).toNat))]) P_i60_30 rfl (show P_aw _ _ _ 31 [.ref (w.2.2 13), P_z (A_cf y 2), P_z 9, P_z (A_cf x 2)] [P_z 1, P_z ns, P_z (A_cf x 2), P_z 9, P_z (A_cf y 2), .ref (w.2.2 (15 + (cs.length : Int).toNat))] _ _ from ?_)
                refine P_aw_op (L' := [.ref (w.2.2 13), P_z (A_cf y 2), P_z 9, P_z (A_cf x 2)]) (st' := [P_z (ns - 1), P_z (A_cf x 2), P_z 9, P_z (A_cf y 2), .ref (w.2.2 (15 + (cs.length : Int).toNat))]) P_i60_31 P_o_isub (show P_aw _ _ _ 32 [.ref (w.2.2 13), P_z (A_cf y 2), P_z 9, P_z (A_cf x 2)] [P_z (ns - 1), P_z (A_cf x 2), P_z 9, P_z (A_cf y 2), .ref (w.2.2 (15 + (cs.length : Int).toNat))] _ _ from ?_)
                refine P_aw_call P_i60_32 rfl rfl (fun _ => rfl) rfl rfl rfl rfl (y2 := 15) (as := [.ref (w.2.2 (15 + (cs.length : Int).toNat)), P_z (A_cf y 2), P_z 9, P_z (A_cf x 2), P_z (ns - 1)]) (r0 := []) (P_inv_v (hw.c (by omega)).2 (hw.c (by omega)).1 rfl rfl) (Nat.le_of_ble_eq_true rfl) (by decide) rfl (Nat.le_of_ble_eq_true rfl) (show P_aw _ _ _ 0 [.ref (w.2.2 (15 + (cs.length : Int).toNat)), P_z (A_cf y 2), P_z 9, P_z (A_cf x 2), P_z (ns - 1)] [] _ _ from ?_)
                refine P_aw_op (L' := [.ref (w.2.2 (15 + (cs.length : Int).toNat)), P_z (A_cf y 2), P_z 9, P_z (A_cf x 2), P_z (ns - 1)]) (st' := [.ref (w.2.2 (15 + (cs.length : Int).toNat))]) P_i15_0 rfl (show P_aw _ _ _ 1 [.ref (w.2.2 (15 + (cs.length : Int).toNat)), P_z (A_cf y 2), P_z 9, P_z (A_cf x 2), P_z (ns - 1)] [.ref (w.2.2 (15 + (cs.length : Int).toNat))] _ _ from ?_)
                refine P_aw_op (L' := [.ref (w.2.2 (15 + (cs.length : Int).toNat)), P_z (A_cf y 2), P_z 9, P_z (A_cf x 2), P_z (ns - 1)]) (st' := [P_z (A_cf y 2), .ref (w.2.2 (15 + (cs.length : Int).toNat))]) P_i15_1 rfl (show P_aw _ _ _ 2 [.ref (w.2.2 (15 + (cs.length : Int).toNat)), P_z (A_cf y 2), P_z 9, P_z (A_cf x 2), P_z (ns - 1)] [P_z (A_cf y 2), .ref (w.2.2 (15 + (cs.length : Int).toNat))] _ _ from ?_)
                refine P_aw_put P_i15_2 (hw.c (by omega)).2 (hw.c (by omega)).1 rfl rfl rfl (show P_aw _ _ _ 5 [.ref (w.2.2 (15 + (cs.length : Int).toNat)), P_z (A_cf y 2), P_z 9, P_z (A_cf x 2), P_z (ns - 1)] [] _ _ from ?_)
                refine P_aw_op (L' := [.ref (w.2.2 (15 + (cs.length : Int).toNat)), P_z (A_cf y 2), P_z 9, P_z (A_cf x 2), P_z (ns - 1)]) (st' := [.ref (w.2.2 (15 + (cs.length : Int).toNat))]) P_i15_5 rfl (show P_aw _ _ _ 6 [.ref (w.2.2 (15 + (cs.length : Int).toNat)), P_z (A_cf y 2), P_z 9, P_z (A_cf x 2), P_z (ns - 1)] [.ref (w.2.2 (15 + (cs.length : Int).toNat))] _ _ from ?_)
                refine P_aw_op (L' := [.ref (w.2.2 (15 + (cs.length : Int).toNat)), P_z (A_cf y 2), P_z 9, P_z (A_cf x 2), P_z (ns - 1)]) (st' := [P_z 9, .ref (w.2.2 (15 + (cs.length : Int).toNat))]) P_i15_6 rfl (show P_aw _ _ _ 7 [.ref (w.2.2 (15 + (cs.length : Int).toNat)), P_z (A_cf y 2), P_z 9, P_z (A_cf x 2), P_z (ns - 1)] [P_z 9, .ref (w.2.2 (15 + (cs.length : Int).toNat))] _ _ from ?_)
                refine P_aw_put P_i15_7 (hw.c (by omega)).2 (hw.c (by omega)).1 rfl rfl rfl (show P_aw _ _ _ 10 [.ref (w.2.2 (15 + (cs.length : Int).toNat)), P_z (A_cf y 2), P_z 9, P_z (A_cf x 2), P_z (ns - 1)] [] _ _ from ?_)
                refine P_aw_op (L' := [.ref (w.2.2 (15 + (cs.length : Int).toNat)), P_z (A_cf y 2), P_z 9, P_z (A_cf x 2), P_z (ns - 1)]) (st' := [.ref (w.2.2 (15 + (cs.length : Int).toNat))]) P_i15_10 rfl (show P_aw _ _ _ 11 [.ref (w.2.2 (15 + (cs.length : Int).toNat)), P_z (A_cf y 2), P_z 9, P_z (A_cf x 2), P_z (ns - 1)] [.ref (w.2.2 (15 + (cs.length : Int).toNat))] _ _ from ?_)
                refine P_aw_op (L' := [.ref (w.2.2 (15 + (cs.length : Int).toNat)), P_z (A_cf y 2), P_z 9, P_z (A_cf x 2), P_z (ns - 1)]) (st' := [P_z (A_cf x 2), .ref (w.2.2 (15 + (cs.length : Int).toNat))]) P_i15_11 rfl (show P_aw _ _ _ 12 [.ref (w.2.2 (15 + (cs.length : Int).toNat)), P_z (A_cf y 2), P_z 9, P_z (A_cf x 2), P_z (ns - 1)] [P_z (A_cf x 2), .ref (w.2.2 (15 + (cs.length : Int).toNat))] _ _ from ?_)
                refine P_aw_put P_i15_12 (hw.c (by omega)).2 (hw.c (by omega)).1 rfl rfl rfl (show P_aw _ _ _ 15 [.ref (w.2.2 (15 + (cs.length : Int).toNat)), P_z (A_cf y 2), P_z 9, P_z (A_cf x 2), P_z (ns - 1)] [] _ _ from ?_)
                refine P_aw_op (L' := [.ref (w.2.2 (15 + (cs.length : Int).toNat)), P_z (A_cf y 2), P_z 9, P_z (A_cf x 2), P_z (ns - 1)]) (st' := [.ref (w.2.2 (15 + (cs.length : Int).toNat))]) P_i15_15 rfl (show P_aw _ _ _ 16 [.ref (w.2.2 (15 + (cs.length : Int).toNat)), P_z (A_cf y 2), P_z 9, P_z (A_cf x 2), P_z (ns - 1)] [.ref (w.2.2 (15 + (cs.length : Int).toNat))] _ _ from ?_)
                refine P_aw_op (L' := [.ref (w.2.2 (15 + (cs.length : Int).toNat)), P_z (A_cf y 2), P_z 9, P_z (A_cf x 2), P_z (ns - 1)]) (st' := [P_z (ns - 1), .ref (w.2.2 (15 + (cs.length : Int).toNat))]) P_i15_16 rfl (show P_aw _ _ _ 18 [.ref (w.2.2 (15 + (cs.length : Int).toNat)), P_z (A_cf y 2), P_z 9, P_z (A_cf x 2), P_z (ns - 1)] [P_z (ns - 1), .ref (w.2.2 (15 + (cs.length : Int).toNat))] _ _ from ?_)
                refine P_aw_put P_i15_18 (hw.c (by omega)).2 (hw.c (by omega)).1 rfl rfl rfl (show P_aw _ _ _ 21 [.ref (w.2.2 (15 + (cs.length : Int).toNat)), P_z (A_cf y 2), P_z 9, P_z (A_cf x 2), P_z (ns - 1)] [] _ _ from ?_)
                refine P_aw_end P_i15_21 rfl rfl (fun _ => rfl) rfl ?_
                show P_aw _ _ _ 35 [.ref (w.2.2 13), P_z (A_cf y 2), P_z 9, P_z (A_cf x 2)] [] _ _
                refine P_aw_op (L' := [.ref (w.2.2 13), P_z (A_cf y 2), P_z 9, P_z (A_cf x 2)]) (st' := [.ref (w.2.2 13)]) P_i60_35 rfl (show P_aw _ _ _ 36 [.ref (w.2.2 13), P_z (A_cf y 2), P_z 9, P_z (A_cf x 2)] [.ref (w.2.2 13)] _ _ from ?_)
                refine P_aw_op (L' := [.ref (w.2.2 13), P_z (A_cf y 2), P_z 9, P_z (A_cf x 2)]) (st' := [.ref (w.2.2 13), .ref (w.2.2 13)]) P_i60_36 rfl (show P_aw _ _ _ 37 [.ref (w.2.2 13), P_z (A_cf y 2), P_z 9, P_z (A_cf x 2)] [.ref (w.2.2 13), .ref (w.2.2 13)] _ _ from ?_)
                have hg22 := hK.2.1
                refine P_aw_getv P_i60_37 (hw.2.1 13 (by decide)) (hw.s rfl) rfl rfl ((P_u2_ne (by omega)).trans ((P_u2_ne (by omega)).trans ((P_u2_ne (by omega)).trans ((P_u2_ne (by omega)).trans (hK.1))))) (show P_aw _ _ _ 40 [.ref (w.2.2 13), P_z (A_cf y 2), P_z 9, P_z (A_cf x 2)] [P_z (cs.length : Int), .ref (w.2.2 13)] _ _ from ?_)
                refine P_aw_op (L' := [.ref (w.2.2 13), P_z (A_cf y 2), P_z 9, P_z (A_cf x 2)]) (st' := [P_z 1, P_z (cs.length : Int), .ref (w.2.2 13)]) P_i60_40 rfl (show P_aw _ _ _ 41 [.ref (w.2.2 13), P_z (A_cf y 2), P_z 9, P_z (A_cf x 2)] [P_z 1, P_z (cs.length : Int), .ref (w.2.2 13)] _ _ from ?_)
                refine P_aw_op (L' := [.ref (w.2.2 13), P_z (A_cf y 2), P_z 9, P_z (A_cf x 2)]) (st' := [P_z ((cs.length : Int) + 1), .ref (w.2.2 13)]) P_i60_41 P_o_iadd (show P_aw _ _ _ 42 [.ref (w.2.2 13), P_z (A_cf y 2), P_z 9, P_z (A_cf x 2)] [P_z ((cs.length : Int) + 1), .ref (w.2.2 13)] _ _ from ?_)
                refine P_aw_put P_i60_42 (hw.2.1 13 (by decide)) (hw.s rfl) rfl rfl rfl (show P_aw _ _ _ 45 [.ref (w.2.2 13), P_z (A_cf y 2), P_z 9, P_z (A_cf x 2)] [] _ _ from ?_)
                refine P_aw_end P_i60_45 rfl rfl (fun _ => rfl) rfl ?_
                show P_aw _ _ _ 55 [.ref (w.2.2 13), .ref (w.2.2 (15 + i.toNat)), .ref (w.2.2 (15 + j.toNat)), P_z (A_cf y 2)] [] _ _
                refine P_aw_op (L' := [.ref (w.2.2 13), .ref (w.2.2 (15 + i.toNat)), .ref (w.2.2 (15 + j.toNat)), P_z (A_cf y 2)]) (st' := [P_z 1]) P_i74_55 rfl (show P_aw _ _ _ 56 [.ref (w.2.2 13), .ref (w.2.2 (15 + i.toNat)), .ref (w.2.2 (15 + j.toNat)), P_z (A_cf y 2)] [P_z 1] _ _ from ?_)
                refine P_aw_end P_i74_56 rfl rfl (fun _ => rfl) rfl ?_
                have hpr : A_pr y x = (A_cf y 2) := (by unfold A_pr; first | rw [if_pos (by omega)] | rw [if_neg (by omega), if_pos (by omega)]); exact q1 (by unfold A_df; rw [hpr]; exact ⟨⟨by omega, by omega, by omega⟩, ⟨by omega, by omega⟩, by omega, by omega⟩) _ (A_kp_add (k := 15 + cs.length) (by omega)) (by rw [hpr]; exact A_KL_add hK (by omega))
              · refine P_aw_izf P_i74_39 ⟨by omega, by omega⟩ (P_ci_eqf (by omega)) (show P_aw _ _ _ 42 [.ref (w.2.2 13), .ref (w.2.2 (15 + i.toNat)), .ref (w.2.2 (15 + j.toNat)), P_z (A_cf y 2)] [] _ _ from ?_)
                refine P_aw_op (L' := [.ref (w.2.2 13), .ref (w.2.2 (15 + i.toNat)), .ref (w.2.2 (15 + j.toNat)), P_z (A_cf y 2)]) (st' := [P_z 0]) P_i74_42 rfl (show P_aw _ _ _ 43 [.ref (w.2.2 13), .ref (w.2.2 (15 + i.toNat)), .ref (w.2.2 (15 + j.toNat)), P_z (A_cf y 2)] [P_z 0] _ _ from ?_)
                refine P_aw_end P_i74_43 rfl rfl (fun _ => rfl) rfl ?_
                exact q0 (fun h => by simp only [A_df, A_pr] at h; (repeat' split at h) <;> omega)
            · refine P_aw_ict P_i19_5 ⟨by omega, by omega⟩ ⟨by omega, by omega⟩ (P_ci_net (by omega)) (show P_aw _ _ _ 13 [.ref (w.2.2 (15 + i.toNat)), P_z (A_cf x 0)] [] _ _ from ?_)
              refine P_aw_op (L' := [.ref (w.2.2 (15 + i.toNat)), P_z (A_cf x 0)]) (st' := [.ref (w.2.2 (15 + i.toNat))]) P_i19_13 rfl (show P_aw _ _ _ 14 [.ref (w.2.2 (15 + i.toNat)), P_z (A_cf x 0)] [.ref (w.2.2 (15 + i.toNat))] _ _ from ?_)
              have hg15 := A_ok_rg hoy
              refine P_aw_getv P_i19_14 (hw.c (by omega)).2 (hw.c (by omega)).1 rfl rfl ((hK.2.2 i 2 (by omega) (by omega) (by omega)).trans (hy 2)) (show P_aw _ _ _ 17 [.ref (w.2.2 (15 + i.toNat)), P_z (A_cf x 0)] [P_z (A_cf y 2)] _ _ from ?_)
              refine P_aw_op (L' := [.ref (w.2.2 (15 + i.toNat)), P_z (A_cf x 0)]) (st' := [P_z (A_cf x 0), P_z (A_cf y 2)]) P_i19_17 rfl (show P_aw _ _ _ 18 [.ref (w.2.2 (15 + i.toNat)), P_z (A_cf x 0)] [P_z (A_cf x 0), P_z (A_cf y 2)] _ _ from ?_)
              by_cases hc16 : (A_cf y 2) = (A_cf x 0)
              · refine P_aw_icf P_i19_18 ⟨by omega, by omega⟩ ⟨by omega, by omega⟩ (P_ci_nef (by omega)) (show P_aw _ _ _ 21 [.ref (w.2.2 (15 + i.toNat)), P_z (A_cf x 0)] [] _ _ from ?_)
                refine P_aw_op (L' := [.ref (w.2.2 (15 + i.toNat)), P_z (A_cf x 0)]) (st' := [.ref (w.2.2 (15 + i.toNat))]) P_i19_21 rfl (show P_aw _ _ _ 22 [.ref (w.2.2 (15 + i.toNat)), P_z (A_cf x 0)] [.ref (w.2.2 (15 + i.toNat))] _ _ from ?_)
                have hg17 := A_ok_rg hoy
                refine P_aw_getv P_i19_22 (hw.c (by omega)).2 (hw.c (by omega)).1 rfl rfl ((hK.2.2 i 0 (by omega) (by omega) (by omega)).trans (hy 0)) (show P_aw _ _ _ 25 [.ref (w.2.2 (15 + i.toNat)), P_z (A_cf x 0)] [P_z (A_cf y 0)] _ _ from ?_)
                refine P_aw_goto P_i19_25 (show P_aw _ _ _ 29 [.ref (w.2.2 (15 + i.toNat)), P_z (A_cf x 0)] [P_z (A_cf y 0)] _ _ from ?_)
                refine P_aw_end P_i19_29 rfl rfl (fun _ => rfl) rfl ?_
                show P_aw _ _ _ 24 [.ref (w.2.2 13), .ref (w.2.2 (15 + i.toNat)), .ref (w.2.2 (15 + j.toNat)), P_un] [P_z (A_cf y 0)] _ _
                refine P_aw_op (L' := [.ref (w.2.2 13), .ref (w.2.2 (15 + i.toNat)), .ref (w.2.2 (15 + j.toNat)), P_z (A_cf y 0)]) (st' := []) P_i74_24 rfl (show P_aw _ _ _ 25 [.ref (w.2.2 13), .ref (w.2.2 (15 + i.toNat)), .ref (w.2.2 (15 + j.toNat)), P_z (A_cf y 0)] [] _ _ from ?_)
                refine P_aw_op (L' := [.ref (w.2.2 13), .ref (w.2.2 (15 + i.toNat)), .ref (w.2.2 (15 + j.toNat)), P_z (A_cf y 0)]) (st' := [P_z (A_cf y 0)]) P_i74_25 rfl (show P_aw _ _ _ 26 [.ref (w.2.2 13), .ref (w.2.2 (15 + i.toNat)), .ref (w.2.2 (15 + j.toNat)), P_z (A_cf y 0)] [P_z (A_cf y 0)] _ _ from ?_)
                refine P_aw_op (L' := [.ref (w.2.2 13), .ref (w.2.2 (15 + i.toNat)), .ref (w.2.2 (15 + j.toNat)), P_z (A_cf y 0)]) (st' := [P_z (-1), P_z (A_cf y 0)]) P_i74_26 rfl (show P_aw _ _ _ 27 [.ref (w.2.2 13), .ref (w.2.2 (15 + i.toNat)), .ref (w.2.2 (15 + j.toNat)), P_z (A_cf y 0)] [P_z (-1), P_z (A_cf y 0)] _ _ from ?_)
                refine P_aw_icf P_i74_27 ⟨by omega, by omega⟩ ⟨by decide, by decide⟩ (P_ci_eqf (by omega)) (show P_aw _ _ _ 30 [.ref (w.2.2 13), .ref (w.2.2 (15 + i.toNat)), .ref (w.2.2 (15 + j.toNat)), P_z (A_cf y 0)] [] _ _ from ?_)
                refine P_aw_op (L' := [.ref (w.2.2 13), .ref (w.2.2 (15 + i.toNat)), .ref (w.2.2 (15 + j.toNat)), P_z (A_cf y 0)]) (st' := [.ref (w.2.2 13)]) P_i74_30 rfl (show P_aw _ _ _ 31 [.ref (w.2.2 13), .ref (w.2.2 (15 + i.toNat)), .ref (w.2.2 (15 + j.toNat)), P_z (A_cf y 0)] [.ref (w.2.2 13)] _ _ from ?_)
                refine P_aw_op (L' := [.ref (w.2.2 13), .ref (w.2.2 (15 + i.toNat)), .ref (w.2.2 (15 + j.toNat)), P_z (A_cf y 0)]) (st' := [P_z (A_cf y 0), .ref (w.2.2 13)]) P_i74_31 rfl (show P_aw _ _ _ 32 [.ref (w.2.2 13), .ref (w.2.2 (15 + i.toNat)), .ref (w.2.2 (15 + j.toNat)), P_z (A_cf y 0)] [P_z (A_cf y 0), .ref (w.2.2 13)] _ _ from ?_)
                refine P_aw_op (L' := [.ref (w.2.2 13), .ref (w.2.2 (15 + i.toNat)), .ref (w.2.2 (15 + j.toNat)), P_z (A_cf y 0)]) (st' := [.ref (w.2.2 (15 + j.toNat)), P_z (A_cf y 0), .ref (w.2.2 13)]) P_i74_32 rfl (show P_aw _ _ _ 33 [.ref (w.2.2 13), .ref (w.2.2 (15 + i.toNat)), .ref (w.2.2 (15 + j.toNat)), P_z (A_cf y 0)] [.ref (w.2.2 (15 + j.toNat)), P_z (A_cf y 0), .ref (w.2.2 13)] _ _ from ?_)
                have hg18 := A_ok_rg hox
                refine P_aw_getv P_i74_33 (hw.c (by omega)).2 (hw.c (by omega)).1 rfl rfl ((hK.2.2 j 2 (by omega) (by omega) (by omega)).trans (hx 2)) (show P_aw _ _ _ 36 [.ref (w.2.2 13), .ref (w.2.2 (15 + i.toNat)), .ref (w.2.2 (15 + j.toNat)), P_z (A_cf y 0)] [P_z (A_cf x 2), P_z (A_cf y 0), .ref (w.2.2 13)] _ _ from ?_)
                have hp19 := A_fx_rg (x := (A_cf y 0)) (v := (A_cf x 2)) cs
                refine P_aw_call P_i74_36 rfl rfl (fun _ => rfl) rfl rfl rfl rfl (y2 := 75) (as := [.ref (w.2.2 13), P_z (A_cf y 0), P_z (A_cf x 2)]) (r0 := []) (P_inv_v (hw.2.1 13 (by decide)) (hw.s rfl) rfl rfl) (Nat.le_of_ble_eq_true rfl) (by decide) rfl (Nat.le_of_ble_eq_true rfl) (s_fx hw (by omega) hK hok ?_)
                show P_aw _ _ _ 39 [.ref (w.2.2 13), .ref (w.2.2 (15 + i.toNat)), .ref (w.2.2 (15 + j.toNat)), P_z (A_cf y 0)] [P_z (A_fx (A_cf y 0) (A_cf x 2) cs)] _ _
                by_cases hc20 : (A_fx (A_cf y 0) (A_cf x 2) cs) = 0
                · refine P_aw_izt P_i74_39 ⟨by omega, by omega⟩ (P_ci_eqt (by omega)) (show P_aw _ _ _ 44 [.ref (w.2.2 13), .ref (w.2.2 (15 + i.toNat)), .ref (w.2.2 (15 + j.toNat)), P_z (A_cf y 0)] [] _ _ from ?_)
                  refine P_aw_op (L' := [.ref (w.2.2 13), .ref (w.2.2 (15 + i.toNat)), .ref (w.2.2 (15 + j.toNat)), P_z (A_cf y 0)]) (st' := [.ref (w.2.2 13)]) P_i74_44 rfl (show P_aw _ _ _ 45 [.ref (w.2.2 13), .ref (w.2.2 (15 + i.toNat)), .ref (w.2.2 (15 + j.toNat)), P_z (A_cf y 0)] [.ref (w.2.2 13)] _ _ from ?_)
                  refine P_aw_op (L' := [.ref (w.2.2 13), .ref (w.2.2 (15 + i.toNat)), .ref (w.2.2 (15 + j.toNat)), P_z (A_cf y 0)]) (st' := [P_z (A_cf y 0), .ref (w.2.2 13)]) P_i74_45 rfl (show P_aw _ _ _ 46 [.ref (w.2.2 13), .ref (w.2.2 (15 + i.toNat)), .ref (w.2.2 (15 + j.toNat)), P_z (A_cf y 0)] [P_z (A_cf y 0), .ref (w.2.2 13)] _ _ from ?_)
                  refine P_aw_op (L' := [.ref (w.2.2 13), .ref (w.2.2 (15 + i.toNat)), .ref (w.2.2 (15 + j.toNat)), P_z (A_cf y 0)]) (st' := [P_z 9, P_z (A_cf y 0), .ref (w.2.2 13)]) P_i74_46 (P_o_bi (by decide)) (show P_aw _ _ _ 48 [.ref (w.2.2 13), .ref (w.2.2 (15 + i.toNat)), .ref (w.2.2 (15 + j.toNat)), P_z (A_cf y 0)] [P_z 9, P_z (A_cf y 0), .ref (w.2.2 13)] _ _ from ?_)
                  refine P_aw_op (L' := [.ref (w.2.2 13), .ref (w.2.2 (15 + i.toNat)), .ref (w.2.2 (15 + j.toNat)), P_z (A_cf y 0)]) (st' := [.ref (w.2.2 (15 + j.toNat)), P_z 9, P_z (A_cf y 0), .ref (w.2.2 13)]) P_i74_48 rfl (show P_aw _ _ _ 49 [.ref (w.2.2 13), .ref (w.2.2 (15 + i.toNat)), .ref (w.2.2 (15 + j.toNat)), P_z (A_cf y 0)] [.ref (w.2.2 (15 + j.toNat)), P_z 9, P_z (A_cf y 0), .ref (w.2.2 13)] _ _ from ?_)
                  have hg21 := A_ok_rg hox
                  refine P_aw_getv P_i74_49 (hw.c (by omega)).2 (hw.c (by omega)).1 rfl rfl ((hK.2.2 j 2 (by omega) (by omega) (by omega)).trans (hx 2)) (show P_aw _ _ _ 52 [.ref (w.2.2 13), .ref (w.2.2 (15 + i.toNat)), .ref (w.2.2 (15 + j.toNat)), P_z (A_cf y 0)] [P_z (A_cf x 2), P_z 9, P_z (A_cf y 0), .ref (w.2.2 13)] _ _ from ?_)
                  refine P_aw_call P_i74_52 rfl rfl (fun _ => rfl) rfl rfl rfl rfl (y2 := 60) (as := [.ref (w.2.2 13), P_z (A_cf y 0), P_z 9, P_z (A_cf x 2)]) (r0 := []) (P_inv_v (hw.2.1 13 (by decide)) (hw.s rfl) rfl rfl) (Nat.le_of_ble_eq_true rfl) (by decide) rfl (Nat.le_of_ble_eq_true rfl) (show P_aw _ _ _ 0 [.ref (w.2.2 13), P_z (A_cf y 0), P_z 9, P_z (A_cf x 2)] [] _ _ from ?_)
                  refine P_aw_op (L' := [.ref (w.2.2 13), P_z (A_cf y 0), P_z 9, P_z (A_cf x 2)]) (st' := [.ref (w.2.2 13)]) P_i60_0 rfl (show P_aw _ _ _ 1 [.ref (w.2.2 13), P_z (A_cf y 0), P_z 9, P_z (A_cf x 2)] [.ref (w.2.2 13)] _ _ from ?_)
                  have hg22 := hK.2.1
                  refine P_aw_getv P_i60_1 (hw.2.1 13 (by decide)) (hw.s rfl) rfl rfl (hK.1) (show P_aw _ _ _ 4 [.ref (w.2.2 13), P_z (A_cf y 0), P_z 9, P_z (A_cf x 2)] [P_z (cs.length : Int)] _ _ from ?_)
                  refine P_aw_op (L' := [.ref (w.2.2 13), P_z (A_cf y 0), P_z 9, P_z (A_cf x 2)]) (st' := [.ref (w.2.2 13), P_z (cs.length : Int)]) P_i60_4 rfl (show P_aw _ _ _ 5 [.ref (w.2.2 13), P_z (A_cf y 0), P_z 9, P_z (A_cf x 2)] [.ref (w.2.2 13), P_z (cs.length : Int)] _ _ from ?_)
                  refine P_aw_getR P_i60_5 (hw.2.1 13 (by decide)) (hw.s rfl) rfl rfl (show P_aw _ _ _ 8 [.ref (w.2.2 13), P_z (A_cf y 0), P_z 9, P_z (A_cf x 2)] [.ref (w.2.2 14), P_z (cs.length : Int)] _ _ from ?_)
                  refine P_aw_clen P_i60_8 (hw.2.1 14 (by decide)) (hw.s rfl) rfl (show P_aw _ _ _ 9 [.ref (w.2.2 13), P_z (A_cf y 0), P_z 9, P_z (A_cf x 2)] [P_z 12, P_z (cs.length : Int)] _ _ from ?_)
                  refine P_aw_icf P_i60_9 ⟨by omega, by omega⟩ ⟨by decide, by decide⟩ (P_ci_gef (by omega)) (show P_aw _ _ _ 12 [.ref (w.2.2 13), P_z (A_cf y 0), P_z 9, P_z (A_cf x 2)] [] _ _ from ?_)
                  refine P_aw_op (L' := [.ref (w.2.2 13), P_z (A_cf y 0), P_z 9, P_z (A_cf x 2)]) (st' := [.ref (w.2.2 13)]) P_i60_12 rfl (show P_aw _ _ _ 13 [.ref (w.2.2 13), P_z (A_cf y 0), P_z 9, P_z (A_cf x 2)] [.ref (w.2.2 13)] _ _ from ?_)
                  refine P_aw_op (L' := [.ref (w.2.2 13), P_z (A_cf y 0), P_z 9, P_z (A_cf x 2)]) (st' := [.ref (w.2.2 13), .ref (w.2.2 13)]) P_i60_13 rfl (show P_aw _ _ _ 14 [.ref (w.2.2 13), P_z (A_cf y 0), P_z 9, P_z (A_cf x 2)] [.ref (w.2.2 13), .ref (w.2.2 13)] _ _ from ?_)
                  have hg23 := hK.2.1
                  refine P_aw_getv P_i60_14 (hw.2.1 13 (by decide)) (hw.s rfl) rfl rfl (hK.1) (show P_aw _ _ _ 17 [.ref (w.2.2 13), P_z (A_cf y 0), P_z 9, P_z (A_cf x 2)] [P_z (cs.length : Int), .ref (w.2.2 13)] _ _ from ?_)
                  refine P_aw_call P_i60_17 rfl rfl (fun _ => rfl) rfl rfl rfl rfl (y2 := 59) (as := [.ref (w.2.2 13), P_z (cs.length : Int)]) (r0 := []) (P_inv_v (hw.2.1 13 (by decide)) (hw.s rfl) rfl rfl) (Nat.le_of_ble_eq_true rfl) (by decide) rfl (Nat.le_of_ble_eq_true rfl) (show P_aw _ _ _ 0 [.ref (w.2.2 13), P_z (cs.length : Int), P_un] [] _ _ from ?_)
                  refine P_aw_op (L' := [.ref (w.2.2 13), P_z (cs.length : Int), P_un]) (st' := [P_z (cs.length : Int)]) P_i59_0 rfl (show P_aw _ _ _ 1 [.ref (w.2.2 13), P_z (cs.length : Int), P_un] [P_z (cs.length : Int)] _ _ from ?_)
                  refine P_aw_izf P_i59_1 ⟨by omega, by omega⟩ (P_ci_ltf (by omega)) (show P_aw _ _ _ 4 [.ref (w.2.2 13), P_z (cs.length : Int), P_un] [] _ _ from ?_)
                  refine P_aw_op (L' := [.ref (w.2.2 13), P_z (cs.length : Int), P_un]) (st' := [P_z (cs.length : Int)]) P_i59_4 rfl (show P_aw _ _ _ 5 [.ref (w.2.2 13), P_z (cs.length : Int), P_un] [P_z (cs.length : Int)] _ _ from ?_)
                  refine P_aw_op (L' := [.ref (w.2.2 13), P_z (cs.length : Int), P_un]) (st' := [.ref (w.2.2 13), P_z (cs.length : Int)]) P_i59_5 rfl (show P_aw _ _ _ 6 [.ref (w.2.2 13), P_z (cs.length : Int), P_un] [.ref (w.2.2 13), P_z (cs.length : Int)] _ _ from ?_)
                  refine P_aw_getR P_i59_6 (hw.2.1 13 (by decide)) (hw.s rfl) rfl rfl (show P_aw _ _ _ 9 [.ref (w.2.2 13), P_z (cs.length : Int), P_un] [.ref (w.2.2 14), P_z (cs.length : Int)] _ _ from ?_)
                  refine P_aw_clen P_i59_9 (hw.2.1 14 (by decide)) (hw.s rfl) rfl (show P_aw _ _ _ 10 [.ref (w.2.2 13), P_z (cs.length : Int), P_un] [P_z 12, P_z (cs.length : Int)] _ _ from ?_)
                  refine P_aw_ict P_i59_10 ⟨by omega, by omega⟩ ⟨by decide, by decide⟩ (P_ci_ltt (by omega)) (show P_aw _ _ _ 18 [.ref (w.2.2 13), P_z (cs.length : Int), P_un] [] _ _ from ?_)
                  refine P_aw_op (L' := [.ref (w.2.2 13), P_z (cs.length : Int), P_un]) (st' := [.ref (w.2.2 13)]) P_i59_18 rfl (show P_aw _ _ _ 19 [.ref (w.2.2 13), P_z (cs.length : Int), P_un] [.ref (w.2.2 13)] _ _ from ?_)
                  refine P_aw_getR P_i59_19 (hw.2.1 13 (by decide)) (hw.s rfl) rfl rfl (show P_aw _ _ _ 22 [.ref (w.2.2 13), P_z (cs.length : Int), P_un] [.ref (w.2.2 14)] _ _ from ?_)
                  refine P_aw_op (L' := [.ref (w.2.2 13), P_z (cs.length : Int), P_un]) (st' := [P_z (cs.length : Int), .ref (w.2.2 14)]) P_i59_22 rfl (show P_aw _ _ _ 23 [.ref (w.2.2 13), P_z (cs.length : Int), P_un] [P_z (cs.length : Int), .ref (w.2.2 14)] _ _ from ?_)
                  refine P_aw_cld P_i59_23 (hw.2.1 14 (by decide)) (hw.s rfl) (by decide) (by omega) (P_c12 (by omega)) (by decide) (show P_aw _ _ _ 24 [.ref (w.2.2 13), P_z (cs.length : Int), P_un] [.ref (w.2.2 (15 + (cs.length : Int).toNat))] _ _ from ?_)
                  refine P_aw_op (L' := [.ref (w.2.2 13), P_z (cs.length : Int), .ref (w.2.2 (15 + (cs.length : Int).toNat))]) (st' := []) P_i59_24 rfl (show P_aw _ _ _ 25 [.ref (w.2.2 13), P_z (cs.length : Int), .ref (w.2.2 (15 + (cs.length : Int).toNat))] [] _ _ from ?_)
                  refine P_aw_op (L' := [.ref (w.2.2 13), P_z (cs.length : Int), .ref (w.2.2 (15 + (cs.length : Int).toNat))]) (st' := [.ref (w.2.2 (15 + (cs.length : Int).toNat))]) P_i59_25 rfl (show P_aw _ _ _ 26 [.ref (w.2.2 13), P_z (cs.length : Int), .ref (w.2.2 (15 + (cs.length : Int).toNat))] [.ref (w.2.2 (15 + (cs.length : Int).toNat))] _ _ from ?_)
                  refine P_aw_brt P_i59_26 rfl (show P_aw _ _ _ 36 [.ref (w.2.2 13), P_z (cs.length : Int), .ref (w.2.2 (15 + (cs.length : Int).toNat))] [] _ _ from ?_)
                  refine P_aw_op (L' := [.ref (w.2.2 13), P_z (cs.length : Int), .ref (w.2.2 (15 + (cs.length : Int).toNat))]) (st' := [.ref (w.2.2 (15 + (cs.length : Int).toNat))]) P_i59_36 rfl (show P_aw _ _ _ 37 [.ref (w.2.2 13), P_z (cs.length : Int), .ref (w.2.2 (15 + (cs.length : Int).toNat))] [.ref (w.2.2 (15 + (cs.length : Int).toNat))] _ _ from ?_)
                  refine P_aw_end P_i59_37 rfl rfl (fun _ => rfl) rfl ?_
                  show P_aw _ _ _ 20 [.ref (w.2.2 13), P_z (A_cf y 0), P_z 9, P_z (A_cf x 2)] [.ref (w.2.2 (15 + (cs.length : Int).toNat))] _ _
                  refine P_aw_op (L' := [.ref (w.2.2 13), P_z (A_cf y 0), P_z 9, P_z (A_cf x 2)]) (st' := [P_z (A_cf y 0), .ref (w.2.2 (15 + (cs.length : Int).toNat))]) P_i60_20 rfl (show P_aw _ _ _ 21 [.ref (w.2.2 13), P_z (A_cf y 0), P_z 9, P_z (A_cf x 2)] [P_z (A_cf y 0), .ref (w.2.2 (15 + (cs.length : Int).toNat))] _ _ from ?_)
                  refine P_aw_op (L' := [.ref (w.2.2 13), P_z (A_cf y 0), P_z 9, P_z (A_cf x 2)]) (st' := [P_z 9, P_z (A_cf y 0), .ref (w.2.2 (15 + (cs.length : Int).toNat))]) P_i60_21 rfl (show P_aw _ _ _ 22 [.ref (w.2.2 13), P_z (A_cf y 0), P_z 9, P_z (A_cf x 2)] [P_z 9, P_z (A_cf y 0), .ref (w.2.2 (15 + (cs.length : Int).toNat))] _ _ from ?_)
                  refine P_aw_op (L' := [.ref (w.2.2 13), P_z (A_cf y 0), P_z 9, P_z (A_cf x 2)]) (st' := [P_z (A_cf x 2), P_z 9, P_z (A_cf y 0), .ref (w.2.2 (15 + (cs.length : Int).toNat))]) P_i60_22 rfl (show P_aw _ _ _ 23 [.ref (w.2.2 13), P_z (A_cf y 0), P_z 9, P_z (A_cf x 2)] [P_z (A_cf x 2), P_z 9, P_z (A_cf y 0), .ref (w.2.2 (15 + (cs.length : Int).toNat))] _ _ from ?_)
                  refine P_aw_op (L' := [.ref (w.2.2 13), P_z (A_cf y 0), P_z 9, P_z (A_cf x 2)]) (st' := [.ref (w.2.2 13), P_z (A_cf x 2), P_z 9, P_z (A_cf y 0), .ref (w.2.2 (15 + (cs.length : Int).toNat))]) P_i60_23 rfl (show P_aw _ _ _ 24 [.ref (w.2.2 13), P_z (A_cf y 0), P_z 9, P_z (A_cf x 2)] [.ref (w.2.2 13), P_z (A_cf x 2), P_z 9, P_z (A_cf y 0), .ref (w.2.2 (15 + (cs.length : Int).toNat))] _ _ from ?_)
                  refine P_aw_getR P_i60_24 (hw.2.1 13 (by decide)) (hw.s rfl) rfl rfl (show P_aw _ _ _ 27 [.ref (w.2.2 13), P_z (A_cf y 0), P_z 9, P_z (A_cf x 2)] [.ref (w.2.2 6), P_z (A_cf x 2), P_z 9, P_z (A_cf y 0), .ref (w.2.2 (15 + (cs.length : Int).toNat))] _ _ from ?_)
                  refine P_aw_call P_i60_27 rfl rfl (fun _ => rfl) rfl rfl rfl rfl (y2 := 30) (as := [.ref (w.2.2 6)]) (r0 := [P_z (A_cf x 2), P_z 9, P_z (A_cf y 0), .ref (w.2.2 (15 + (cs.length : Int).toNat))]) (P_inv_v (hw.2.1 6 (by decide)) (hw.s rfl) rfl rfl) (Nat.le_of_ble_eq_true rfl) (by decide) rfl (Nat.le_of_ble_eq_true rfl) (show P_aw _ _ _ 0 [.ref (w.2.2 6)] [] _ _ from ?_)
                  refine P_aw_op (L' := [.ref (w.2.2 6)]) (st' := [.ref (w.2.2 6)]) P_i30_0 rfl (show P_aw _ _ _ 1 [.ref (w.2.2 6)] [.ref (w.2.2 6)] _ _ from ?_)
                  refine P_aw_getv P_i30_1 (hw.2.1 6 (by decide)) (hw.s rfl) rfl rfl (hns) (show P_aw _ _ _ 4 [.ref (w.2.2 6)] [P_z ns] _ _ from ?_)
                  refine P_aw_end P_i30_4 rfl rfl (fun _ => rfl) rfl ?_
                  show P_aw _ _ _ 30 [.ref (w.2.2 13), P_z (A_cf y 0), P_z 9, P_z (A_cf x 2)] [P_z ns, P_z (A_cf x 2), P_z 9, P_z (A_cf y 0), .ref (w.2.2 (15 + (cs.length : Int).toNat))] _ _
                  refine P_aw_op (L' := [.ref (w.2.2 13), P_z (A_cf y 0), P_z 9, P_z (A_cf x 2)]) (st' := [P_z 1, P_z ns, P_z (A_cf x 2), P_z 9, P_z (A_cf y 0), .ref (w.2.2 (15 + (cs.length : Int).toNat))]) P_i60_30 rfl (show P_aw _ _ _ 31 [.ref (w.2.2 13), P_z (A_cf y 0), P_z 9, P_z (A_cf x 2)] [P_z 1, P_z ns, P_z (A_cf x 2), P_z 9, P_z (A_cf y 0), .ref (w.2.2 (15 + (cs.length : Int).toNat))] _ _ from ?_)
                  refine P_aw_op (L' := [.ref (w.2.2 13), P_z (A_cf y 0), P_z 9, P_z (A_cf x 2)]) (st' := [P_z (ns - 1), P_z (A_cf x 2), P_z 9, P_z (A_cf y 0), .ref (w.2.2 (15 + (cs.length : Int).toNat))]) P_i60_31 P_o_isub (show P_aw _ _ _ 32 [.ref (w.2.2 13), P_z (A_cf y 0), P_z 9, P_z (A_cf x 2)] [P_z (ns - 1), P_z (A_cf x 2), P_z 9, P_z (A_cf y 0), .ref (w.2.2 (15 + (cs.length : Int).toNat))] _ _ from ?_)
                  refine P_aw_call P_i60_32 rfl rfl (fun _ => rfl) rfl rfl rfl rfl (y2 := 15) (as := [.ref (w.2.2 (15 + (cs.length : Int).toNat)), P_z (A_cf y 0), P_z 9, P_z (A_cf x 2), P_z (ns - 1)]) (r0 := []) (P_inv_v (hw.c (by omega)).2 (hw.c (by omega)).1 rfl rfl) (Nat.le_of_ble_eq_true rfl) (by decide) rfl (Nat.le_of_ble_eq_true rfl) (show P_aw _ _ _ 0 [.ref (w.2.2 (15 + (cs.length : Int).toNat)), P_z (A_cf y 0), P_z 9, P_z (A_cf x 2), P_z (ns - 1)] [] _ _ from ?_)
                  refine P_aw_op (L' := [.ref (w.2.2 (15 + (cs.length : Int).toNat)), P_z (A_cf y 0), P_z 9, P_z (A_cf x 2), P_z (ns - 1)]) (st' := [.ref (w.2.2 (15 + (cs.length : Int).toNat))]) P_i15_0 rfl (show P_aw _ _ _ 1 [.ref (w.2.2 (15 + (cs.length : Int).toNat)), P_z (A_cf y 0), P_z 9, P_z (A_cf x 2), P_z (ns - 1)] [.ref (w.2.2 (15 + (cs.length : Int).toNat))] _ _ from ?_)
                  refine P_aw_op (L' := [.ref (w.2.2 (15 + (cs.length : Int).toNat)), P_z (A_cf y 0), P_z 9, P_z (A_cf x 2), P_z (ns - 1)]) (st' := [P_z (A_cf y 0), .ref (w.2.2 (15 + (cs.length : Int).toNat))]) P_i15_1 rfl (show P_aw _ _ _ 2 [.ref (w.2.2 (15 + (cs.length : Int).toNat)), P_z (A_cf y 0), P_z 9, P_z (A_cf x 2), P_z (ns - 1)] [P_z (A_cf y 0), .ref (w.2.2 (15 + (cs.length : Int).toNat))] _ _ from ?_)
                  refine P_aw_put P_i15_2 (hw.c (by omega)).2 (hw.c (by omega)).1 rfl rfl rfl (show P_aw _ _ _ 5 [.ref (w.2.2 (15 + (cs.length : Int).toNat)), P_z (A_cf y 0), P_z 9, P_z (A_cf x 2), P_z (ns - 1)] [] _ _ from ?_)
                  refine P_aw_op (L' := [.ref (w.2.2 (15 + (cs.length : Int).toNat)), P_z (A_cf y 0), P_z 9, P_z (A_cf x 2), P_z (ns - 1)]) (st' := [.ref (w.2.2 (15 + (cs.length : Int).toNat))]) P_i15_5 rfl (show P_aw _ _ _ 6 [.ref (w.2.2 (15 + (cs.length : Int).toNat)), P_z (A_cf y 0), P_z 9, P_z (A_cf x 2), P_z (ns - 1)] [.ref (w.2.2 (15 + (cs.length : Int).toNat))] _ _ from ?_)
                  refine P_aw_op (L' := [.ref (w.2.2 (15 + (cs.length : Int).toNat)), P_z (A_cf y 0), P_z 9, P_z (A_cf x 2), P_z (ns - 1)]) (st' := [P_z 9, .ref (w.2.2 (15 + (cs.length : Int).toNat))]) P_i15_6 rfl (show P_aw _ _ _ 7 [.ref (w.2.2 (15 + (cs.length : Int).toNat)), P_z (A_cf y 0), P_z 9, P_z (A_cf x 2), P_z (ns - 1)] [P_z 9, .ref (w.2.2 (15 + (cs.length : Int).toNat))] _ _ from ?_)
                  refine P_aw_put P_i15_7 (hw.c (by omega)).2 (hw.c (by omega)).1 rfl rfl rfl (show P_aw _ _ _ 10 [.ref (w.2.2 (15 + (cs.length : Int).toNat)), P_z (A_cf y 0), P_z 9, P_z (A_cf x 2), P_z (ns - 1)] [] _ _ from ?_)
                  refine P_aw_op (L' := [.ref (w.2.2 (15 + (cs.length : Int).toNat)), P_z (A_cf y 0), P_z 9, P_z (A_cf x 2), P_z (ns - 1)]) (st' := [.ref (w.2.2 (15 + (cs.length : Int).toNat))]) P_i15_10 rfl (show P_aw _ _ _ 11 [.ref (w.2.2 (15 + (cs.length : Int).toNat)), P_z (A_cf y 0), P_z 9, P_z (A_cf x 2), P_z (ns - 1)] [.ref (w.2.2 (15 + (cs.length : Int).toNat))] _ _ from ?_)
                  refine P_aw_op (L' := [.ref (w.2.2 (15 + (cs.length : Int).toNat)), P_z (A_cf y 0), P_z 9, P_z (A_cf x 2), P_z (ns - 1)]) (st' := [P_z (A_cf x 2), .ref (w.2.2 (15 + (cs.length : Int).toNat))]) P_i15_11 rfl (show P_aw _ _ _ 12 [.ref (w.2.2 (15 + (cs.length : Int).toNat)), P_z (A_cf y 0), P_z 9, P_z (A_cf x 2), P_z (ns - 1)] [P_z (A_cf x 2), .ref (w.2.2 (15 + (cs.length : Int).toNat))] _ _ from ?_)
                  refine P_aw_put P_i15_12 (hw.c (by omega)).2 (hw.c (by omega)).1 rfl rfl rfl (show P_aw _ _ _ 15 [.ref (w.2.2 (15 + (cs.length : Int).toNat)), P_z (A_cf y 0), P_z 9, P_z (A_cf x 2), P_z (ns - 1)] [] _ _ from ?_)
                  refine P_aw_op (L' := [.ref (w.2.2 (15 + (cs.length : Int).toNat)), P_z (A_cf y 0), P_z 9, P_z (A_cf x 2), P_z (ns - 1)]) (st' := [.ref (w.2.2 (15 + (cs.length : Int).toNat))]) P_i15_15 rfl (show P_aw _ _ _ 16 [.ref (w.2.2 (15 + (cs.length : Int).toNat)), P_z (A_cf y 0), P_z 9, P_z (A_cf x 2), P_z (ns - 1)] [.ref (w.2.2 (15 + (cs.length : Int).toNat))] _ _ from ?_)
                  refine P_aw_op (L' := [.ref (w.2.2 (15 + (cs.length : Int).toNat)), P_z (A_cf y 0), P_z 9, P_z (A_cf x 2), P_z (ns - 1)]) (st' := [P_z (ns - 1), .ref (w.2.2 (15 + (cs.length : Int).toNat))]) P_i15_16 rfl (show P_aw _ _ _ 18 [.ref (w.2.2 (15 + (cs.length : Int).toNat)), P_z (A_cf y 0), P_z 9, P_z (A_cf x 2), P_z (ns - 1)] [P_z (ns - 1), .ref (w.2.2 (15 + (cs.length : Int).toNat))] _ _ from ?_)
                  refine P_aw_put P_i15_18 (hw.c (by omega)).2 (hw.c (by omega)).1 rfl rfl rfl (show P_aw _ _ _ 21 [.ref (w.2.2 (15 + (cs.length : Int).toNat)), P_z (A_cf y 0), P_z 9, P_z (A_cf x 2), P_z (ns - 1)] [] _ _ from ?_)
                  refine P_aw_end P_i15_21 rfl rfl (fun _ => rfl) rfl ?_
                  show P_aw _ _ _ 35 [.ref (w.2.2 13), P_z (A_cf y 0), P_z 9, P_z (A_cf x 2)] [] _ _
                  refine P_aw_op (L' := [.ref (w.2.2 13), P_z (A_cf y 0), P_z 9, P_z (A_cf x 2)]) (st' := [.ref (w.2.2 13)]) P_i60_35 rfl (show P_aw _ _ _ 36 [.ref (w.2.2 13), P_z (A_cf y 0), P_z 9, P_z (A_cf x 2)] [.ref (w.2.2 13)] _ _ from ?_)
                  refine P_aw_op (L' := [.ref (w.2.2 13), P_z (A_cf y 0), P_z 9, P_z (A_cf x 2)]) (st' := [.ref (w.2.2 13), .ref (w.2.2 13)]) P_i60_36 rfl (show P_aw _ _ _ 37 [.ref (w.2.2 13), P_z (A_cf y 0), P_z 9, P_z (A_cf x 2)] [.ref (w.2.2 13), .ref (w.2.2 13)] _ _ from ?_)
                  have hg24 := hK.2.1
                  refine P_aw_getv P_i60_37 (hw.2.1 13 (by decide)) (hw.s rfl) rfl rfl ((P_u2_ne (by omega)).trans ((P_u2_ne (by omega)).trans ((P_u2_ne (by omega)).trans ((P_u2_ne (by omega)).trans (hK.1))))) (show P_aw _ _ _ 40 [.ref (w.2.2 13), P_z (A_cf y 0), P_z 9, P_z (A_cf x 2)] [P_z (cs.length : Int), .ref (w.2.2 13)] _ _ from ?_)
                  refine P_aw_op (L' := [.ref (w.2.2 13), P_z (A_cf y 0), P_z 9, P_z (A_cf x 2)]) (st' := [P_z 1, P_z (cs.length : Int), .ref (w.2.2 13)]) P_i60_40 rfl (show P_aw _ _ _ 41 [.ref (w.2.2 13), P_z (A_cf y 0), P_z 9, P_z (A_cf x 2)] [P_z 1, P_z (cs.length : Int), .ref (w.2.2 13)] _ _ from ?_)
                  refine P_aw_op (L' := [.ref (w.2.2 13), P_z (A_cf y 0), P_z 9, P_z (A_cf x 2)]) (st' := [P_z ((cs.length : Int) + 1), .ref (w.2.2 13)]) P_i60_41 P_o_iadd (show P_aw _ _ _ 42 [.ref (w.2.2 13), P_z (A_cf y 0), P_z 9, P_z (A_cf x 2)] [P_z ((cs.length : Int) + 1), .ref (w.2.2 13)] _ _ from ?_)
                  refine P_aw_put P_i60_42 (hw.2.1 13 (by decide)) (hw.s rfl) rfl rfl rfl (show P_aw _ _ _ 45 [.ref (w.2.2 13), P_z (A_cf y 0), P_z 9, P_z (A_cf x 2)] [] _ _ from ?_)
                  refine P_aw_end P_i60_45 rfl rfl (fun _ => rfl) rfl ?_
                  show P_aw _ _ _ 55 [.ref (w.2.2 13), .ref (w.2.2 (15 + i.toNat)), .ref (w.2.2 (15 + j.toNat)), P_z (A_cf y 0)] [] _ _
                  refine P_aw_op (L' := [.ref (w.2.2 13), .ref (w.2.2 (15 + i.toNat)), .ref (w.2.2 (15 + j.toNat)), P_z (A_cf y 0)]) (st' := [P_z 1]) P_i74_55 rfl (show P_aw _ _ _ 56 [.ref (w.2.2 13), .ref (w.2.2 (15 + i.toNat)), .ref (w.2.2 (15 + j.toNat)), P_z (A_cf y 0)] [P_z 1] _ _ from ?_)
                  refine P_aw_end P_i74_56 rfl rfl (fun _ => rfl) rfl ?_
                  have hpr : A_pr y x = (A_cf y 0) := (by unfold A_pr; first | rw [if_pos (by omega)] | rw [if_neg (by omega), if_pos (by omega)]); exact q1 (by unfold A_df; rw [hpr]; exact ⟨⟨by omega, by omega, by omega⟩, ⟨by omega, by omega⟩, by omega, by omega⟩) _ (A_kp_add (k := 15 + cs.length) (by omega)) (by rw [hpr]; exact A_KL_add hK (by omega))
                · refine P_aw_izf P_i74_39 ⟨by omega, by omega⟩ (P_ci_eqf (by omega)) (show P_aw _ _ _ 42 [.ref (w.2.2 13), .ref (w.2.2 (15 + i.toNat)), .ref (w.2.2 (15 + j.toNat)), P_z (A_cf y 0)] [] _ _ from ?_)
                  refine P_aw_op (L' := [.ref (w.2.2 13), .ref (w.2.2 (15 + i.toNat)), .ref (w.2.2 (15 + j.toNat)), P_z (A_cf y 0)]) (st' := [P_z 0]) P_i74_42 rfl (show P_aw _ _ _ 43 [.ref (w.2.2 13), .ref (w.2.2 (15 + i.toNat)), .ref (w.2.2 (15 + j.toNat)), P_z (A_cf y 0)] [P_z 0] _ _ from ?_)
                  refine P_aw_end P_i74_43 rfl rfl (fun _ => rfl) rfl ?_
                  exact q0 (fun h => by simp only [A_df, A_pr] at h; (repeat' split at h) <;> omega)
              · refine P_aw_ict P_i19_18 ⟨by omega, by omega⟩ ⟨by omega, by omega⟩ (P_ci_net (by omega)) (show P_aw _ _ _ 28 [.ref (w.2.2 (15 + i.toNat)), P_z (A_cf x 0)] [] _ _ from ?_)
                refine P_aw_op (L' := [.ref (w.2.2 (15 + i.toNat)), P_z (A_cf x 0)]) (st' := [P_z (-1)]) P_i19_28 rfl (show P_aw _ _ _ 29 [.ref (w.2.2 (15 + i.toNat)), P_z (A_cf x 0)] [P_z (-1)] _ _ from ?_)
                refine P_aw_end P_i19_29 rfl rfl (fun _ => rfl) rfl ?_
                show P_aw _ _ _ 24 [.ref (w.2.2 13), .ref (w.2.2 (15 + i.toNat)), .ref (w.2.2 (15 + j.toNat)), P_un] [P_z (-1)] _ _
                refine P_aw_op (L' := [.ref (w.2.2 13), .ref (w.2.2 (15 + i.toNat)), .ref (w.2.2 (15 + j.toNat)), P_z (-1)]) (st' := []) P_i74_24 rfl (show P_aw _ _ _ 25 [.ref (w.2.2 13), .ref (w.2.2 (15 + i.toNat)), .ref (w.2.2 (15 + j.toNat)), P_z (-1)] [] _ _ from ?_)
                refine P_aw_op (L' := [.ref (w.2.2 13), .ref (w.2.2 (15 + i.toNat)), .ref (w.2.2 (15 + j.toNat)), P_z (-1)]) (st' := [P_z (-1)]) P_i74_25 rfl (show P_aw _ _ _ 26 [.ref (w.2.2 13), .ref (w.2.2 (15 + i.toNat)), .ref (w.2.2 (15 + j.toNat)), P_z (-1)] [P_z (-1)] _ _ from ?_)
                refine P_aw_op (L' := [.ref (w.2.2 13), .ref (w.2.2 (15 + i.toNat)), .ref (w.2.2 (15 + j.toNat)), P_z (-1)]) (st' := [P_z (-1), P_z (-1)]) P_i74_26 rfl (show P_aw _ _ _ 27 [.ref (w.2.2 13), .ref (w.2.2 (15 + i.toNat)), .ref (w.2.2 (15 + j.toNat)), P_z (-1)] [P_z (-1), P_z (-1)] _ _ from ?_)
                refine P_aw_ict P_i74_27 ⟨by decide, by decide⟩ ⟨by decide, by decide⟩ (P_ci_eqt (by omega)) (show P_aw _ _ _ 42 [.ref (w.2.2 13), .ref (w.2.2 (15 + i.toNat)), .ref (w.2.2 (15 + j.toNat)), P_z (-1)] [] _ _ from ?_)
                refine P_aw_op (L' := [.ref (w.2.2 13), .ref (w.2.2 (15 + i.toNat)), .ref (w.2.2 (15 + j.toNat)), P_z (-1)]) (st' := [P_z 0]) P_i74_42 rfl (show P_aw _ _ _ 43 [.ref (w.2.2 13), .ref (w.2.2 (15 + i.toNat)), .ref (w.2.2 (15 + j.toNat)), P_z (-1)] [P_z 0] _ _ from ?_)
                refine P_aw_end P_i74_43 rfl rfl (fun _ => rfl) rfl ?_
                exact q0 (fun h => by simp only [A_df, A_pr] at h; (repeat' split at h) <;> omega)
        · refine P_aw_ict P_i18_6 ⟨by omega, by omega⟩ ⟨by decide, by decide⟩ (P_ci_net (by omega)) (show P_aw _ _ _ 23 [.ref (w.2.2 (15 + j.toNat))] [] _ _ from ?_)
          refine P_aw_op (L' := [.ref (w.2.2 (15 + j.toNat))]) (st' := [P_z 0]) P_i18_23 rfl (show P_aw _ _ _ 24 [.ref (w.2.2 (15 + j.toNat))] [P_z 0] _ _ from ?_)
          refine P_aw_end P_i18_24 rfl rfl (fun _ => rfl) rfl ?_
          show P_aw _ _ _ 11 [.ref (w.2.2 13), .ref (w.2.2 (15 + i.toNat)), .ref (w.2.2 (15 + j.toNat)), P_un] [P_z 0] _ _
          refine P_aw_izf P_i74_11 ⟨by decide, by decide⟩ (P_ci_nef (by omega)) (show P_aw _ _ _ 14 [.ref (w.2.2 13), .ref (w.2.2 (15 + i.toNat)), .ref (w.2.2 (15 + j.toNat)), P_un] [] _ _ from ?_)
          refine P_aw_op (L' := [.ref (w.2.2 13), .ref (w.2.2 (15 + i.toNat)), .ref (w.2.2 (15 + j.toNat)), P_un]) (st' := [P_z 0]) P_i74_14 rfl (show P_aw _ _ _ 15 [.ref (w.2.2 13), .ref (w.2.2 (15 + i.toNat)), .ref (w.2.2 (15 + j.toNat)), P_un] [P_z 0] _ _ from ?_)
          refine P_aw_end P_i74_15 rfl rfl (fun _ => rfl) rfl ?_
          exact q0 (fun h => by simp only [A_df, A_pr] at h; (repeat' split at h) <;> omega)
  · refine P_aw_ict P_i17_6 ⟨by omega, by omega⟩ ⟨by decide, by decide⟩ (P_ci_net (by omega)) (show P_aw _ _ _ 34 [.ref (w.2.2 (15 + i.toNat))] [] _ _ from ?_)
    refine P_aw_op (L' := [.ref (w.2.2 (15 + i.toNat))]) (st' := [P_z 0]) P_i17_34 rfl (show P_aw _ _ _ 35 [.ref (w.2.2 (15 + i.toNat))] [P_z 0] _ _ from ?_)
    refine P_aw_end P_i17_35 rfl rfl (fun _ => rfl) rfl ?_
    show P_aw _ _ _ 4 [.ref (w.2.2 13), .ref (w.2.2 (15 + i.toNat)), .ref (w.2.2 (15 + j.toNat)), P_un] [P_z 0] _ _
    refine P_aw_izt P_i74_4 ⟨by decide, by decide⟩ (P_ci_eqt (by omega)) (show P_aw _ _ _ 14 [.ref (w.2.2 13), .ref (w.2.2 (15 + i.toNat)), .ref (w.2.2 (15 + j.toNat)), P_un] [] _ _ from ?_)
    refine P_aw_op (L' := [.ref (w.2.2 13), .ref (w.2.2 (15 + i.toNat)), .ref (w.2.2 (15 + j.toNat)), P_un]) (st' := [P_z 0]) P_i74_14 rfl (show P_aw _ _ _ 15 [.ref (w.2.2 13), .ref (w.2.2 (15 + i.toNat)), .ref (w.2.2 (15 + j.toNat)), P_un] [P_z 0] _ _ from ?_)
    refine P_aw_end P_i74_15 rfl rfl (fun _ => rfl) rfl ?_
    exact q0 (fun h => by simp only [A_df, A_pr] at h; (repeat' split at h) <;> omega)

def A_dfb (cs : List A_cd) (y x : A_cd) : Bool := decide ((A_cf y 1 = 9 ∧ A_cf y 2 ≤ 199 ∧ A_cf y 0 ≠ A_cf y 2) ∧ (A_cf x 1 = 9 ∧ 1000 ≤ A_cf x 2) ∧ A_pr y x ≠ -1 ∧ A_fx (A_pr y x) (A_cf x 2) cs = 0)
theorem A_dfb_t {cs : List A_cd} {y x : A_cd} (h : A_df cs y x) : A_dfb cs y x = true := decide_eq_true h
theorem A_dfb_f {cs : List A_cd} {y x : A_cd} (h : ¬ A_df cs y x) : A_dfb cs y x = false := decide_eq_false h
/-- the first of the conditions that draws with y -/
def A_d1 (cs : List A_cd) (y : A_cd) : List A_cd → Option A_cd
  | [] => none
  | x :: r => if A_dfb cs y x = true then some x else A_d1 cs y r
/-- the first pair that draws -/
def A_d2 (cs : List A_cd) : List A_cd → Option (A_cd × A_cd)
  | [] => none
  | y :: r => match A_d1 cs y cs with
    | some x => some (y, x)
    | none => A_d2 cs r
/-- what they draw -/
def A_new (ns : Int) (y x : A_cd) : A_cd := (A_pr y x, 9, A_cf x 2, ns - 1)
/-- all that is drawn, at most n times -/
def A_dr (ns : Int) : Nat → List A_cd → List A_cd
  | 0, cs => cs
  | n + 1, cs => match A_d2 cs cs with
    | some p => A_dr ns n (cs ++ [A_new ns p.1 p.2])
    | none => cs
theorem A_d1_mem {cs : List A_cd} {y x : A_cd} : ∀ {l : List A_cd}, A_d1 cs y l = some x → x ∈ l ∧ A_dfb cs y x = true
  | [], h => by cases h
  | z :: r, h => by
    simp only [A_d1] at h
    split at h
    · next hz => cases h; exact ⟨List.mem_cons_self, hz⟩
    · have := A_d1_mem h; exact ⟨List.mem_cons_of_mem _ this.1, this.2⟩
theorem A_d2_mem {cs : List A_cd} {p : A_cd × A_cd} : ∀ {l : List A_cd}, A_d2 cs l = some p → p.1 ∈ l ∧ p.2 ∈ cs ∧ A_dfb cs p.1 p.2 = true
  | [], h => by cases h
  | z :: r, h => by
    simp only [A_d2] at h
    split at h
    · next x hx =>
      cases h
      have := A_d1_mem hx
      exact ⟨List.mem_cons_self, this.1, this.2⟩
    · have := A_d2_mem h
      exact ⟨List.mem_cons_of_mem _ this.1, this.2⟩
theorem A_ok_new {ns : Int} {cs : List A_cd} {y x : A_cd} (hn : 1 ≤ ns ∧ ns ≤ 3) (hy : A_ok ns y) (hx : A_ok ns x) (h : A_dfb cs y x = true) : A_ok ns (A_new ns y x) := by
  have h := of_decide_eq_true h
  obtain ⟨⟨a1, a2, a3⟩, ⟨b1, b2⟩, c1, -⟩ := h
  have hx2 := A_ok_rg hx
  have hy2 : A_col ns (A_cf y 2) := by
    rcases hy.2.2.1 with q | q
    · exact q
    · exact absurd q.1 (by show ¬ 1000 ≤ A_cf y 2; omega)
  refine ⟨?_, by show 9 ≤ (9 : Int) ∧ (9 : Int) ≤ 11; omega, Or.inr (by show 1000 ≤ A_cf x 2 ∧ A_cf x 2 ≤ 1999; omega), by show 0 ≤ ns - 1 ∧ ns - 1 ≤ 2; omega⟩
  show A_col ns (A_pr y x)
  unfold A_pr at c1 ⊢
  split
  · exact hy2
  · next q1 =>
    split
    · exact hy.1
    · next q2 => rw [if_neg q1, if_neg q2] at c1; exact absurd rfl c1
theorem s_d1l {w : P_Lw} (hw : P_Cw w) {d : Nat} {Q : P_R → P_A → Prop} {σ : P_A} {ns : Int} {cs : List A_cd} (hns : σ 6 5 = ns) (hn : 1 ≤ ns ∧ ns ≤ 3) (hK : A_KL σ cs) (hok : A_oks ns cs) (h12 : cs.length < 12) {y : A_cd} {i : Int} (hi : 0 ≤ i ∧ i < cs.length) (hy : ∀ f, A_lc cs i f = A_cf y f) (hoy : A_ok ns y) : ∀ (n : Nat) (A B : List A_cd) (j : Int), cs = A ++ B → j = ((A.length : Nat) : Int) → B.length = n → (A_d1 cs y B = none → P_aw w (d + 4) 73 45 [.ref (w.2.2 13), P_z i, P_z (cs.length : Int)] [] σ Q) → (∀ x, A_d1 cs y B = some x → ∀ σ', A_kp σ σ' → A_KL σ' (cs ++ [A_new ns y x]) → Q (.inl (some (P_z 1))) σ') → P_aw w (d + 4) 73 12 [.ref (w.2.2 13), P_z i, P_z j] [] σ Q := by
  have hz := hK.2.1
  intro n
  induction n with
  | zero =>
    intro A B j hcs hj hB q0 q1
    obtain rfl : B = [] := List.length_eq_zero_iff.mp hB
    have hl : j = (cs.length : Int) := by rw [hcs, hj]; simp
    refine P_aw_op (L' := [.ref (w.2.2 13), P_z i, P_z j]) (st' := [P_z j]) P_i73_12 rfl (show P_aw _ _ _ 13 [.ref (w.2.2 13), P_z i, P_z j] [P_z j] _ _ from ?_)
    refine P_aw_op (L' := [.ref (w.2.2 13), P_z i, P_z j]) (st' := [.ref (w.2.2 13), P_z j]) P_i73_13 rfl (show P_aw _ _ _ 14 [.ref (w.2.2 13), P_z i, P_z j] [.ref (w.2.2 13), P_z j] _ _ from ?_)
    have hg1 := hK.2.1
    refine P_aw_getv P_i73_14 (hw.2.1 13 (by decide)) (hw.s rfl) rfl rfl (hK.1) (show P_aw _ _ _ 17 [.ref (w.2.2 13), P_z i, P_z j] [P_z (cs.length : Int), P_z j] _ _ from ?_)
    refine P_aw_ict P_i73_17 ⟨by omega, by omega⟩ ⟨by omega, by omega⟩ (P_ci_get (by omega)) (show P_aw _ _ _ 45 [.ref (w.2.2 13), P_z i, P_z j] [] _ _ from ?_)
    subst hl; exact q0 rfl
  | succ n ih =>
    intro A B j hcs hj hB q0 q1
    obtain ⟨x, B, rfl⟩ : ∃ x B', B = x :: B' := by
      cases B with
      | nil => exact absurd hB (by simp)
      | cons x B => exact ⟨x, B, rfl⟩
    have hlB : B.length = n := Nat.succ.inj hB
    have hl : (cs.length : Int) = j + 1 + (n : Int) := by rw [hcs, hj, A_len, hlB]
    have hx : ∀ f, A_lc cs j f = A_cf x f := fun f => by rw [hcs]; exact A_lc_mid hj f
    have hox : A_ok ns x := hok x (by rw [hcs]; exact A_mem)
    refine P_aw_op (L' := [.ref (w.2.2 13), P_z i, P_z j]) (st' := [P_z j]) P_i73_12 rfl (show P_aw _ _ _ 13 [.ref (w.2.2 13), P_z i, P_z j] [P_z j] _ _ from ?_)
    refine P_aw_op (L' := [.ref (w.2.2 13), P_z i, P_z j]) (st' := [.ref (w.2.2 13), P_z j]) P_i73_13 rfl (show P_aw _ _ _ 14 [.ref (w.2.2 13), P_z i, P_z j] [.ref (w.2.2 13), P_z j] _ _ from ?_)
    have hg1 := hK.2.1
    refine P_aw_getv P_i73_14 (hw.2.1 13 (by decide)) (hw.s rfl) rfl rfl (hK.1) (show P_aw _ _ _ 17 [.ref (w.2.2 13), P_z i, P_z j] [P_z (cs.length : Int), P_z j] _ _ from ?_)
    refine P_aw_icf P_i73_17 ⟨by omega, by omega⟩ ⟨by omega, by omega⟩ (P_ci_gef (by omega)) (show P_aw _ _ _ 20 [.ref (w.2.2 13), P_z i, P_z j] [] _ _ from ?_)
    refine P_aw_op (L' := [.ref (w.2.2 13), P_z i, P_z j]) (st' := [.ref (w.2.2 13)]) P_i73_20 rfl (show P_aw _ _ _ 21 [.ref (w.2.2 13), P_z i, P_z j] [.ref (w.2.2 13)] _ _ from ?_)
    refine P_aw_op (L' := [.ref (w.2.2 13), P_z i, P_z j]) (st' := [.ref (w.2.2 13), .ref (w.2.2 13)]) P_i73_21 rfl (show P_aw _ _ _ 22 [.ref (w.2.2 13), P_z i, P_z j] [.ref (w.2.2 13), .ref (w.2.2 13)] _ _ from ?_)
    refine P_aw_op (L' := [.ref (w.2.2 13), P_z i, P_z j]) (st' := [P_z i, .ref (w.2.2 13), .ref (w.2.2 13)]) P_i73_22 rfl (show P_aw _ _ _ 23 [.ref (w.2.2 13), P_z i, P_z j] [P_z i, .ref (w.2.2 13), .ref (w.2.2 13)] _ _ from ?_)
    refine P_aw_call P_i73_23 rfl rfl (fun _ => rfl) rfl rfl rfl rfl (y2 := 59) (as := [.ref (w.2.2 13), P_z i]) (r0 := [.ref (w.2.2 13)]) (P_inv_v (hw.2.1 13 (by decide)) (hw.s rfl) rfl rfl) (Nat.le_of_ble_eq_true rfl) (by decide) rfl (Nat.le_of_ble_eq_true rfl) (show P_aw _ _ _ 0 [.ref (w.2.2 13), P_z i, P_un] [] _ _ from ?_)
    refine P_aw_op (L' := [.ref (w.2.2 13), P_z i, P_un]) (st' := [P_z i]) P_i59_0 rfl (show P_aw _ _ _ 1 [.ref (w.2.2 13), P_z i, P_un] [P_z i] _ _ from ?_)
    refine P_aw_izf P_i59_1 ⟨by omega, by omega⟩ (P_ci_ltf (by omega)) (show P_aw _ _ _ 4 [.ref (w.2.2 13), P_z i, P_un] [] _ _ from ?_)
    refine P_aw_op (L' := [.ref (w.2.2 13), P_z i, P_un]) (st' := [P_z i]) P_i59_4 rfl (show P_aw _ _ _ 5 [.ref (w.2.2 13), P_z i, P_un] [P_z i] _ _ from ?_)
    refine P_aw_op (L' := [.ref (w.2.2 13), P_z i, P_un]) (st' := [.ref (w.2.2 13), P_z i]) P_i59_5 rfl (show P_aw _ _ _ 6 [.ref (w.2.2 13), P_z i, P_un] [.ref (w.2.2 13), P_z i] _ _ from ?_)
    refine P_aw_getR P_i59_6 (hw.2.1 13 (by decide)) (hw.s rfl) rfl rfl (show P_aw _ _ _ 9 [.ref (w.2.2 13), P_z i, P_un] [.ref (w.2.2 14), P_z i] _ _ from ?_)
    refine P_aw_clen P_i59_9 (hw.2.1 14 (by decide)) (hw.s rfl) rfl (show P_aw _ _ _ 10 [.ref (w.2.2 13), P_z i, P_un] [P_z 12, P_z i] _ _ from ?_)
    refine P_aw_ict P_i59_10 ⟨by omega, by omega⟩ ⟨by decide, by decide⟩ (P_ci_ltt (by omega)) (show P_aw _ _ _ 18 [.ref (w.2.2 13), P_z i, P_un] [] _ _ from ?_)
    refine P_aw_op (L' := [.ref (w.2.2 13), P_z i, P_un]) (st' := [.ref (w.2.2 13)]) P_i59_18 rfl (show P_aw _ _ _ 19 [.ref (w.2.2 13), P_z i, P_un] [.ref (w.2.2 13)] _ _ from ?_)
    refine P_aw_getR P_i59_19 (hw.2.1 13 (by decide)) (hw.s rfl) rfl rfl (show P_aw _ _ _ 22 [.ref (w.2.2 13), P_z i, P_un] [.ref (w.2.2 14)] _ _ from ?_)
    refine P_aw_op (L' := [.ref (w.2.2 13), P_z i, P_un]) (st' := [P_z i, .ref (w.2.2 14)]) P_i59_22 rfl (show P_aw _ _ _ 23 [.ref (w.2.2 13), P_z i, P_un] [P_z i, .ref (w.2.2 14)] _ _ from ?_)
    refine P_aw_cld P_i59_23 (hw.2.1 14 (by decide)) (hw.s rfl) (by decide) (by omega) (P_c12 (by omega)) (by decide) (show P_aw _ _ _ 24 [.ref (w.2.2 13), P_z i, P_un] [.ref (w.2.2 (15 + i.toNat))] _ _ from ?_)
    refine P_aw_op (L' := [.ref (w.2.2 13), P_z i, .ref (w.2.2 (15 + i.toNat))]) (st' := []) P_i59_24 rfl (show P_aw _ _ _ 25 [.ref (w.2.2 13), P_z i, .ref (w.2.2 (15 + i.toNat))] [] _ _ from ?_)
    refine P_aw_op (L' := [.ref (w.2.2 13), P_z i, .ref (w.2.2 (15 + i.toNat))]) (st' := [.ref (w.2.2 (15 + i.toNat))]) P_i59_25 rfl (show P_aw _ _ _ 26 [.ref (w.2.2 13), P_z i, .ref (w.2.2 (15 + i.toNat))] [.ref (w.2.2 (15 + i.toNat))] _ _ from ?_)
    refine P_aw_brt P_i59_26 rfl (show P_aw _ _ _ 36 [.ref (w.2.2 13), P_z i, .ref (w.2.2 (15 + i.toNat))] [] _ _ from ?_)
    refine P_aw_op (L' := [.ref (w.2.2 13), P_z i, .ref (w.2.2 (15 + i.toNat))]) (st' := [.ref (w.2.2 (15 + i.toNat))]) P_i59_36 rfl (show P_aw _ _ _ 37 [.ref (w.2.2 13), P_z i, .ref (w.2.2 (15 + i.toNat))] [.ref (w.2.2 (15 + i.toNat))] _ _ from ?_)
    refine P_aw_end P_i59_37 rfl rfl (fun _ => rfl) rfl ?_
    show P_aw _ _ _ 26 [.ref (w.2.2 13), P_z i, P_z j] [.ref (w.2.2 (15 + i.toNat)), .ref (w.2.2 13)] _ _
    refine P_aw_op (L' := [.ref (w.2.2 13), P_z i, P_z j]) (st' := [.ref (w.2.2 13), .ref (w.2.2 (15 + i.toNat)), .ref (w.2.2 13)]) P_i73_26 rfl (show P_aw _ _ _ 27 [.ref (w.2.2 13), P_z i, P_z j] [.ref (w.2.2 13), .ref (w.2.2 (15 + i.toNat)), .ref (w.2.2 13)] _ _ from ?_)
    refine P_aw_op (L' := [.ref (w.2.2 13), P_z i, P_z j]) (st' := [P_z j, .ref (w.2.2 13), .ref (w.2.2 (15 + i.toNat)), .ref (w.2.2 13)]) P_i73_27 rfl (show P_aw _ _ _ 28 [.ref (w.2.2 13), P_z i, P_z j] [P_z j, .ref (w.2.2 13), .ref (w.2.2 (15 + i.toNat)), .ref (w.2.2 13)] _ _ from ?_)
    refine P_aw_call P_i73_28 rfl rfl (fun _ => rfl) rfl rfl rfl rfl (y2 := 59) (as := [.ref (w.2.2 13), P_z j]) (r0 := [.ref (w.2.2 (15 + i.toNat)), .ref (w.2.2 13)]) (P_inv_v (hw.2.1 13 (by decide)) (hw.s rfl) rfl rfl) (Nat.le_of_ble_eq_true rfl) (by decide) rfl (Nat.le_of_ble_eq_true rfl) (show P_aw _ _ _ 0 [.ref (w.2.2 13), P_z j, P_un] [] _ _ from ?_)
    refine P_aw_op (L' := [.ref (w.2.2 13), P_z j, P_un]) (st' := [P_z j]) P_i59_0 rfl (show P_aw _ _ _ 1 [.ref (w.2.2 13), P_z j, P_un] [P_z j] _ _ from ?_)
    refine P_aw_izf P_i59_1 ⟨by omega, by omega⟩ (P_ci_ltf (by omega)) (show P_aw _ _ _ 4 [.ref (w.2.2 13), P_z j, P_un] [] _ _ from ?_)
    refine P_aw_op (L' := [.ref (w.2.2 13), P_z j, P_un]) (st' := [P_z j]) P_i59_4 rfl (show P_aw _ _ _ 5 [.ref (w.2.2 13), P_z j, P_un] [P_z j] _ _ from ?_)
    refine P_aw_op (L' := [.ref (w.2.2 13), P_z j, P_un]) (st' := [.ref (w.2.2 13), P_z j]) P_i59_5 rfl (show P_aw _ _ _ 6 [.ref (w.2.2 13), P_z j, P_un] [.ref (w.2.2 13), P_z j] _ _ from ?_)
    refine P_aw_getR P_i59_6 (hw.2.1 13 (by decide)) (hw.s rfl) rfl rfl (show P_aw _ _ _ 9 [.ref (w.2.2 13), P_z j, P_un] [.ref (w.2.2 14), P_z j] _ _ from ?_)
    refine P_aw_clen P_i59_9 (hw.2.1 14 (by decide)) (hw.s rfl) rfl (show P_aw _ _ _ 10 [.ref (w.2.2 13), P_z j, P_un] [P_z 12, P_z j] _ _ from ?_)
    refine P_aw_ict P_i59_10 ⟨by omega, by omega⟩ ⟨by decide, by decide⟩ (P_ci_ltt (by omega)) (show P_aw _ _ _ 18 [.ref (w.2.2 13), P_z j, P_un] [] _ _ from ?_)
    refine P_aw_op (L' := [.ref (w.2.2 13), P_z j, P_un]) (st' := [.ref (w.2.2 13)]) P_i59_18 rfl (show P_aw _ _ _ 19 [.ref (w.2.2 13), P_z j, P_un] [.ref (w.2.2 13)] _ _ from ?_)
    refine P_aw_getR P_i59_19 (hw.2.1 13 (by decide)) (hw.s rfl) rfl rfl (show P_aw _ _ _ 22 [.ref (w.2.2 13), P_z j, P_un] [.ref (w.2.2 14)] _ _ from ?_)
    refine P_aw_op (L' := [.ref (w.2.2 13), P_z j, P_un]) (st' := [P_z j, .ref (w.2.2 14)]) P_i59_22 rfl (show P_aw _ _ _ 23 [.ref (w.2.2 13), P_z j, P_un] [P_z j, .ref (w.2.2 14)] _ _ from ?_)
    refine P_aw_cld P_i59_23 (hw.2.1 14 (by decide)) (hw.s rfl) (by decide) (by omega) (P_c12 (by omega)) (by decide) (show P_aw _ _ _ 24 [.ref (w.2.2 13), P_z j, P_un] [.ref (w.2.2 (15 + j.toNat))] _ _ from ?_)
    refine P_aw_op (L' := [.ref (w.2.2 13), P_z j, .ref (w.2.2 (15 + j.toNat))]) (st' := []) P_i59_24 rfl (show P_aw _ _ _ 25 [.ref (w.2.2 13), P_z j, .ref (w.2.2 (15 + j.toNat))] [] _ _ from ?_)
    refine P_aw_op (L' := [.ref (w.2.2 13), P_z j, .ref (w.2.2 (15 + j.toNat))]) (st' := [.ref (w.2.2 (15 + j.toNat))]) P_i59_25 rfl (show P_aw _ _ _ 26 [.ref (w.2.2 13), P_z j, .ref (w.2.2 (15 + j.toNat))] [.ref (w.2.2 (15 + j.toNat))] _ _ from ?_)
    refine P_aw_brt P_i59_26 rfl (show P_aw _ _ _ 36 [.ref (w.2.2 13), P_z j, .ref (w.2.2 (15 + j.toNat))] [] _ _ from ?_)
    refine P_aw_op (L' := [.ref (w.2.2 13), P_z j, .ref (w.2.2 (15 + j.toNat))]) (st' := [.ref (w.2.2 (15 + j.toNat))]) P_i59_36 rfl (show P_aw _ _ _ 37 [.ref (w.2.2 13), P_z j, .ref (w.2.2 (15 + j.toNat))] [.ref (w.2.2 (15 + j.toNat))] _ _ from ?_)
    refine P_aw_end P_i59_37 rfl rfl (fun _ => rfl) rfl ?_
    show P_aw _ _ _ 31 [.ref (w.2.2 13), P_z i, P_z j] [.ref (w.2.2 (15 + j.toNat)), .ref (w.2.2 (15 + i.toNat)), .ref (w.2.2 13)] _ _
    refine P_aw_call P_i73_31 rfl rfl (fun _ => rfl) rfl rfl rfl rfl (y2 := 74) (as := [.ref (w.2.2 13), .ref (w.2.2 (15 + i.toNat)), .ref (w.2.2 (15 + j.toNat))]) (r0 := []) (P_inv_v (hw.2.1 13 (by decide)) (hw.s rfl) rfl rfl) (Nat.le_of_ble_eq_true rfl) (by decide) rfl (Nat.le_of_ble_eq_true rfl) (s_df hw hns hn hK hok h12 (by omega) (by omega) hy hx hoy hox (fun hd => ?_) (fun hd σ2 k1 k2 => ?_))
    · show P_aw _ _ _ 34 [.ref (w.2.2 13), P_z i, P_z j] [P_z 0] _ _
      refine P_aw_izt P_i73_34 ⟨by decide, by decide⟩ (P_ci_eqt (by omega)) (show P_aw _ _ _ 39 [.ref (w.2.2 13), P_z i, P_z j] [] _ _ from ?_)
      refine P_aw_op (L' := [.ref (w.2.2 13), P_z i, P_z (j + 1)]) (st' := []) P_i73_39 (P_o_iinc rfl) (show P_aw _ _ _ 42 [.ref (w.2.2 13), P_z i, P_z (j + 1)] [] _ _ from ?_)
      refine P_aw_goto P_i73_42 (show P_aw _ _ _ 12 [.ref (w.2.2 13), P_z i, P_z (j + 1)] [] _ _ from ?_)
      exact ih (A ++ [x]) B (j + 1) (by rw [hcs]; exact A_app) (by rw [hj]; simp) hlB (fun h => q0 (by simp only [A_d1]; rw [A_dfb_f hd]; exact h)) (fun x' h => q1 x' (by simp only [A_d1]; rw [A_dfb_f hd]; exact h))
    · show P_aw _ _ _ 34 [.ref (w.2.2 13), P_z i, P_z j] [P_z 1] _ _
      refine P_aw_izf P_i73_34 ⟨by decide, by decide⟩ (P_ci_eqf (by omega)) (show P_aw _ _ _ 37 [.ref (w.2.2 13), P_z i, P_z j] [] _ _ from ?_)
      refine P_aw_op (L' := [.ref (w.2.2 13), P_z i, P_z j]) (st' := [P_z 1]) P_i73_37 rfl (show P_aw _ _ _ 38 [.ref (w.2.2 13), P_z i, P_z j] [P_z 1] _ _ from ?_)
      refine P_aw_end P_i73_38 rfl rfl (fun _ => rfl) rfl ?_
      exact q1 x (by simp only [A_d1]; rw [if_pos (A_dfb_t hd)]) σ2 k1 k2

theorem s_d2l {w : P_Lw} (hw : P_Cw w) {d : Nat} {Q : P_R → P_A → Prop} {σ : P_A} {ns : Int} {cs : List A_cd} (hns : σ 6 5 = ns) (hn : 1 ≤ ns ∧ ns ≤ 3) (hK : A_KL σ cs) (hok : A_oks ns cs) (h12 : cs.length < 12) : ∀ (n : Nat) (A B : List A_cd) (i : Int), cs = A ++ B → i = ((A.length : Nat) : Int) → B.length = n → (A_d2 cs B = none → Q (.inl (some (P_z 0))) σ) → (∀ y x, A_d2 cs B = some (y, x) → ∀ σ', A_kp σ σ' → A_KL σ' (cs ++ [A_new ns y x]) → Q (.inl (some (P_z 1))) σ') → P_aw w (d + 4) 73 2 [.ref (w.2.2 13), P_z i, P_un] [] σ Q := by
  have hz := hK.2.1
  intro n
  induction n with
  | zero =>
    intro A B i hcs hi hB q0 q1
    obtain rfl : B = [] := List.length_eq_zero_iff.mp hB
    have hl : i = (cs.length : Int) := by rw [hcs, hi]; simp
    refine P_aw_op (L' := [.ref (w.2.2 13), P_z i, P_un]) (st' := [P_z i]) P_i73_2 rfl (show P_aw _ _ _ 3 [.ref (w.2.2 13), P_z i, P_un] [P_z i] _ _ from ?_)
    refine P_aw_op (L' := [.ref (w.2.2 13), P_z i, P_un]) (st' := [.ref (w.2.2 13), P_z i]) P_i73_3 rfl (show P_aw _ _ _ 4 [.ref (w.2.2 13), P_z i, P_un] [.ref (w.2.2 13), P_z i] _ _ from ?_)
    have hg1 := hK.2.1
    refine P_aw_getv P_i73_4 (hw.2.1 13 (by decide)) (hw.s rfl) rfl rfl (hK.1) (show P_aw _ _ _ 7 [.ref (w.2.2 13), P_z i, P_un] [P_z (cs.length : Int), P_z i] _ _ from ?_)
    refine P_aw_ict P_i73_7 ⟨by omega, by omega⟩ ⟨by omega, by omega⟩ (P_ci_get (by omega)) (show P_aw _ _ _ 51 [.ref (w.2.2 13), P_z i, P_un] [] _ _ from ?_)
    refine P_aw_op (L' := [.ref (w.2.2 13), P_z i, P_un]) (st' := [P_z 0]) P_i73_51 rfl (show P_aw _ _ _ 52 [.ref (w.2.2 13), P_z i, P_un] [P_z 0] _ _ from ?_)
    refine P_aw_end P_i73_52 rfl rfl (fun _ => rfl) rfl ?_
    exact q0 rfl
  | succ n ih =>
    intro A B i hcs hi hB q0 q1
    obtain ⟨y, B, rfl⟩ : ∃ x B', B = x :: B' := by
      cases B with
      | nil => exact absurd hB (by simp)
      | cons x B => exact ⟨x, B, rfl⟩
    have hlB : B.length = n := Nat.succ.inj hB
    have hl : (cs.length : Int) = i + 1 + (n : Int) := by rw [hcs, hi, A_len, hlB]
    have hy : ∀ f, A_lc cs i f = A_cf y f := fun f => by rw [hcs]; exact A_lc_mid hi f
    have hoy : A_ok ns y := hok y (by rw [hcs]; exact A_mem)
    refine P_aw_op (L' := [.ref (w.2.2 13), P_z i, P_un]) (st' := [P_z i]) P_i73_2 rfl (show P_aw _ _ _ 3 [.ref (w.2.2 13), P_z i, P_un] [P_z i] _ _ from ?_)
    refine P_aw_op (L' := [.ref (w.2.2 13), P_z i, P_un]) (st' := [.ref (w.2.2 13), P_z i]) P_i73_3 rfl (show P_aw _ _ _ 4 [.ref (w.2.2 13), P_z i, P_un] [.ref (w.2.2 13), P_z i] _ _ from ?_)
    have hg1 := hK.2.1
    refine P_aw_getv P_i73_4 (hw.2.1 13 (by decide)) (hw.s rfl) rfl rfl (hK.1) (show P_aw _ _ _ 7 [.ref (w.2.2 13), P_z i, P_un] [P_z (cs.length : Int), P_z i] _ _ from ?_)
    refine P_aw_icf P_i73_7 ⟨by omega, by omega⟩ ⟨by omega, by omega⟩ (P_ci_gef (by omega)) (show P_aw _ _ _ 10 [.ref (w.2.2 13), P_z i, P_un] [] _ _ from ?_)
    refine P_aw_op (L' := [.ref (w.2.2 13), P_z i, P_un]) (st' := [P_z 0]) P_i73_10 rfl (show P_aw _ _ _ 11 [.ref (w.2.2 13), P_z i, P_un] [P_z 0] _ _ from ?_)
    refine P_aw_op (L' := [.ref (w.2.2 13), P_z i, P_z 0]) (st' := []) P_i73_11 rfl (show P_aw _ _ _ 12 [.ref (w.2.2 13), P_z i, P_z 0] [] _ _ from ?_)
    refine s_d1l hw hns hn hK hok h12 (by omega) hy hoy cs.length [] cs 0 rfl rfl rfl (fun hd => ?_) (fun x hd σ2 k1 k2 => q1 y x (by simp only [A_d2]; rw [hd]) σ2 k1 k2)
    refine P_aw_op (L' := [.ref (w.2.2 13), P_z (i + 1), P_z (cs.length : Int)]) (st' := []) P_i73_45 (P_o_iinc rfl) (show P_aw _ _ _ 48 [.ref (w.2.2 13), P_z (i + 1), P_z (cs.length : Int)] [] _ _ from ?_)
    refine P_aw_goto P_i73_48 (show P_aw _ _ _ 2 [.ref (w.2.2 13), P_z (i + 1), P_un] [] _ _ from ?_)
    exact ih (A ++ [y]) B (i + 1) (by rw [hcs]; exact A_app) (by rw [hi]; simp) hlB (fun h => q0 (by simp only [A_d2]; rw [hd]; exact h)) (fun y' x' h => q1 y' x' (by simp only [A_d2]; rw [hd]; exact h))

theorem s_d2 {w : P_Lw} (hw : P_Cw w) {d : Nat} {Q : P_R → P_A → Prop} {σ : P_A} {ns : Int} {cs : List A_cd} (hns : σ 6 5 = ns) (hn : 1 ≤ ns ∧ ns ≤ 3) (hK : A_KL σ cs) (hok : A_oks ns cs) (h12 : cs.length < 12) (q1 : ∀ y x, A_d2 cs cs = some (y, x) → ∀ σ', A_kp σ σ' → A_KL σ' (cs ++ [A_new ns y x]) → Q (.inl (some (P_z 1))) σ') (q : A_d2 cs cs = none → Q (.inl (some (P_z 0))) σ) : P_aw w (d + 4) 73 0 [.ref (w.2.2 13), P_un, P_un] [] σ Q := by
  refine P_aw_op (L' := [.ref (w.2.2 13), P_un, P_un]) (st' := [P_z 0]) P_i73_0 rfl (show P_aw _ _ _ 1 [.ref (w.2.2 13), P_un, P_un] [P_z 0] _ _ from ?_)
  refine P_aw_op (L' := [.ref (w.2.2 13), P_z 0, P_un]) (st' := []) P_i73_1 rfl (show P_aw _ _ _ 2 [.ref (w.2.2 13), P_z 0, P_un] [] _ _ from ?_)
  exact s_d2l hw hns hn hK hok h12 cs.length [] cs 0 rfl rfl rfl q q1

theorem s_drl {w : P_Lw} (hw : P_Cw w) {d : Nat} {Q : P_R → P_A → Prop} {ns : Int} (hn : 1 ≤ ns ∧ ns ≤ 3) : ∀ (n : Nat) (σ : P_A) (cs : List A_cd) (t m : Int), m = (n : Int) → (cs.length : Int) + n = 12 → (0 ≤ t ∧ t ≤ 12 - n) → σ 6 5 = ns → A_KL σ cs → A_oks ns cs → (∀ σ', A_kp σ σ' → A_KL σ' (A_dr ns n cs) → Q (.inl (some (P_z (t + (((A_dr ns n cs).length : Int) - (cs.length : Int)))))) σ') → P_aw w (d + 5) 72 10 [.ref (w.2.2 13), P_z t, P_z m] [] σ Q := by
  intro n
  induction n with
  | zero =>
    intro σ cs t m hm hl ht hns hK hok q
    refine P_aw_op (L' := [.ref (w.2.2 13), P_z t, P_z m]) (st' := [P_z m]) P_i72_10 rfl (show P_aw _ _ _ 11 [.ref (w.2.2 13), P_z t, P_z m] [P_z m] _ _ from ?_)
    refine P_aw_izt P_i72_11 ⟨by omega, by omega⟩ (P_ci_let (by omega)) (show P_aw _ _ _ 30 [.ref (w.2.2 13), P_z t, P_z m] [] _ _ from ?_)
    refine P_aw_op (L' := [.ref (w.2.2 13), P_z t, P_z m]) (st' := [P_z t]) P_i72_30 rfl (show P_aw _ _ _ 31 [.ref (w.2.2 13), P_z t, P_z m] [P_z t] _ _ from ?_)
    refine P_aw_end P_i72_31 rfl rfl (fun _ => rfl) rfl ?_
    exact P_qz (by show t = t + ((cs.length : Int) - (cs.length : Int)); omega) rfl (q σ A_kp_rf hK)
  | succ n ih =>
    intro σ cs t m hm hl ht hns hK hok q
    refine P_aw_op (L' := [.ref (w.2.2 13), P_z t, P_z m]) (st' := [P_z m]) P_i72_10 rfl (show P_aw _ _ _ 11 [.ref (w.2.2 13), P_z t, P_z m] [P_z m] _ _ from ?_)
    refine P_aw_izf P_i72_11 ⟨by omega, by omega⟩ (P_ci_lef (by omega)) (show P_aw _ _ _ 14 [.ref (w.2.2 13), P_z t, P_z m] [] _ _ from ?_)
    refine P_aw_op (L' := [.ref (w.2.2 13), P_z t, P_z m]) (st' := [.ref (w.2.2 13)]) P_i72_14 rfl (show P_aw _ _ _ 15 [.ref (w.2.2 13), P_z t, P_z m] [.ref (w.2.2 13)] _ _ from ?_)
    refine P_aw_call P_i72_15 rfl rfl (fun _ => rfl) rfl rfl rfl rfl (y2 := 73) (as := [.ref (w.2.2 13)]) (r0 := []) (P_inv_v (hw.2.1 13 (by decide)) (hw.s rfl) rfl rfl) (Nat.le_of_ble_eq_true rfl) (by decide) rfl (Nat.le_of_ble_eq_true rfl) (s_d2 hw hns hn hK hok (by omega) (fun y x hd σ2 k1 k2 => ?_) (fun hd => ?_))
    · show P_aw _ _ _ 18 [.ref (w.2.2 13), P_z t, P_z m] [P_z 1] _ _
      refine P_aw_izf P_i72_18 ⟨by decide, by decide⟩ (P_ci_eqf (by omega)) (show P_aw _ _ _ 21 [.ref (w.2.2 13), P_z t, P_z m] [] _ _ from ?_)
      refine P_aw_op (L' := [.ref (w.2.2 13), P_z (t + 1), P_z m]) (st' := []) P_i72_21 (P_o_iinc rfl) (show P_aw _ _ _ 24 [.ref (w.2.2 13), P_z (t + 1), P_z m] [] _ _ from ?_)
      refine P_aw_op (L' := [.ref (w.2.2 13), P_z (t + 1), P_z (m + (-1))]) (st' := []) P_i72_24 (P_o_iinc rfl) (show P_aw _ _ _ 27 [.ref (w.2.2 13), P_z (t + 1), P_z (m + (-1))] [] _ _ from ?_)
      refine P_aw_goto P_i72_27 (show P_aw _ _ _ 10 [.ref (w.2.2 13), P_z (t + 1), P_z (m + (-1))] [] _ _ from ?_)
      have hK2 : A_KL σ2 (cs ++ [A_new ns y x]) := k2; have hl2 : ((cs ++ [A_new ns y x]).length : Int) = (cs.length : Int) + 1 := (by simp); have hd2 := A_d2_mem hd; have hok2 : A_oks ns (cs ++ [A_new ns y x]) := (fun z hz => (List.mem_append.mp hz).elim (hok z) (fun e => by rw [List.mem_singleton.mp e]; exact A_ok_new hn (hok _ hd2.1) (hok _ hd2.2.1) hd2.2.2)); have e : A_dr ns (n + 1) cs = A_dr ns n (cs ++ [A_new ns y x]) := (by simp only [A_dr]; rw [hd]); exact ih σ2 _ (t + 1) (m - 1) (by omega) (by omega) (by omega) ((k1 6 5 (by omega) (by omega)).trans hns) hK2 hok2 (fun σ' h1 h2 => P_qz (by rw [e]; omega) rfl (q σ' (A_kp_tr k1 h1) (e ▸ h2)))
    · show P_aw _ _ _ 18 [.ref (w.2.2 13), P_z t, P_z m] [P_z 0] _ _
      refine P_aw_izt P_i72_18 ⟨by decide, by decide⟩ (P_ci_eqt (by omega)) (show P_aw _ _ _ 30 [.ref (w.2.2 13), P_z t, P_z m] [] _ _ from ?_)
      refine P_aw_op (L' := [.ref (w.2.2 13), P_z t, P_z m]) (st' := [P_z t]) P_i72_30 rfl (show P_aw _ _ _ 31 [.ref (w.2.2 13), P_z t, P_z m] [P_z t] _ _ from ?_)
      refine P_aw_end P_i72_31 rfl rfl (fun _ => rfl) rfl ?_
      have e : A_dr ns (n + 1) cs = cs := (by simp only [A_dr]; rw [hd]); exact P_qz (by rw [e]; omega) rfl (q σ A_kp_rf (by rw [e]; exact hK))

theorem s_dr {w : P_Lw} (hw : P_Cw w) {d : Nat} {Q : P_R → P_A → Prop} {σ : P_A} {ns : Int} {cs : List A_cd} (hns : σ 6 5 = ns) (hn : 1 ≤ ns ∧ ns ≤ 3) (hK : A_KL σ cs) (hok : A_oks ns cs) (q : ∀ σ', A_kp σ σ' → A_KL σ' (A_dr ns (12 - cs.length) cs) → Q (.inl (some (P_z (((A_dr ns (12 - cs.length) cs).length : Int) - (cs.length : Int))))) σ') : P_aw w (d + 5) 72 0 [.ref (w.2.2 13), P_un, P_un] [] σ Q := by
  have hz := hK.2.1
  refine P_aw_op (L' := [.ref (w.2.2 13), P_un, P_un]) (st' := [P_z 0]) P_i72_0 rfl (show P_aw _ _ _ 1 [.ref (w.2.2 13), P_un, P_un] [P_z 0] _ _ from ?_)
  refine P_aw_op (L' := [.ref (w.2.2 13), P_z 0, P_un]) (st' := []) P_i72_1 rfl (show P_aw _ _ _ 2 [.ref (w.2.2 13), P_z 0, P_un] [] _ _ from ?_)
  refine P_aw_op (L' := [.ref (w.2.2 13), P_z 0, P_un]) (st' := [P_z 12]) P_i72_2 (P_o_bi (by decide)) (show P_aw _ _ _ 4 [.ref (w.2.2 13), P_z 0, P_un] [P_z 12] _ _ from ?_)
  refine P_aw_op (L' := [.ref (w.2.2 13), P_z 0, P_un]) (st' := [.ref (w.2.2 13), P_z 12]) P_i72_4 rfl (show P_aw _ _ _ 5 [.ref (w.2.2 13), P_z 0, P_un] [.ref (w.2.2 13), P_z 12] _ _ from ?_)
  have hg1 := hK.2.1
  refine P_aw_getv P_i72_5 (hw.2.1 13 (by decide)) (hw.s rfl) rfl rfl (hK.1) (show P_aw _ _ _ 8 [.ref (w.2.2 13), P_z 0, P_un] [P_z (cs.length : Int), P_z 12] _ _ from ?_)
  refine P_aw_op (L' := [.ref (w.2.2 13), P_z 0, P_un]) (st' := [P_z (12 - (cs.length : Int))]) P_i72_8 P_o_isub (show P_aw _ _ _ 9 [.ref (w.2.2 13), P_z 0, P_un] [P_z (12 - (cs.length : Int))] _ _ from ?_)
  refine P_aw_op (L' := [.ref (w.2.2 13), P_z 0, P_z (12 - (cs.length : Int))]) (st' := []) P_i72_9 rfl (show P_aw _ _ _ 10 [.ref (w.2.2 13), P_z 0, P_z (12 - (cs.length : Int))] [] _ _ from ?_)
  exact s_drl hw hn (12 - cs.length) σ cs 0 _ (by omega) (by omega) (by omega) hns hK hok (fun σ' h1 h2 => P_qz (by omega) rfl (q σ' h1 h2))

/-- what rule 0 keeps -/
def A_keep (x : A_cd) : Bool := decide (¬ (A_cf x 1 = 9 ∧ A_cf x 0 = A_cf x 2))
theorem A_keep_t {x : A_cd} (h : ¬ (A_cf x 1 = 9 ∧ A_cf x 0 = A_cf x 2)) : A_keep x = true := decide_eq_true h
theorem A_keep_f {x : A_cd} (h : A_cf x 1 = 9 ∧ A_cf x 0 = A_cf x 2) : A_keep x = false := decide_eq_false (fun q => q h)
theorem A_KL_rm {σ : P_A} {A B : List A_cd} {y : A_cd} {i : Int} (hi : i = ((A.length : Nat) : Int)) (hK : A_K σ (((A ++ y :: B).length : Int) - 1) (fun j f => if j < i then A_lc (A ++ y :: B) j f else A_lc (A ++ y :: B) (j + 1) f)) : A_KL σ (A ++ B) := by
  have hl : ((A ++ y :: B).length : Int) - 1 = ((A ++ B).length : Int) := by simp; omega
  rw [hl] at hK
  refine A_K_cg (fun j f h0 h1 => ?_) hK
  (try simp only)
  split
  · unfold A_lc
    rw [List.getD_eq_getElem?_getD, List.getD_eq_getElem?_getD, List.getElem?_append_left (by omega), List.getElem?_append_left (by omega)]
  · unfold A_lc
    rw [List.getD_eq_getElem?_getD, List.getD_eq_getElem?_getD, List.getElem?_append_right (by omega), List.getElem?_append_right (by omega)]
    have e : (j + 1).toNat - A.length = (j.toNat - A.length) + 1 := by omega
    rw [e]
    rfl
theorem A_KR_of {ns : Int} {cs : List A_cd} (ho : A_oks ns cs) : A_KR (cs.length : Int) (A_lc cs) := by
  intro j f h0 h1 h2
  have hx : cs.getD j.toNat (0, 0, 0, 0) ∈ cs := by
    rw [List.getD_eq_getElem?_getD, List.getElem?_eq_getElem (show j.toNat < cs.length by omega)]
    exact List.getElem_mem _
  have h := A_ok_rg (ho _ hx)
  unfold A_lc
  match f, h2 with
  | 0, _ => omega
  | 1, _ => omega
  | 2, _ => omega
  | 3, _ => omega
  | f + 4, h2 => exact absurd h2 (by omega)
theorem A_flt_t {A : List A_cd} {y : A_cd} (h : A_keep y = true) : (A ++ [y]).filter A_keep = A.filter A_keep ++ [y] := by
  rw [List.filter_append, List.filter_cons, if_pos h]
  rfl
theorem A_flt_f {A : List A_cd} {y : A_cd} (h : A_keep y = false) : (A ++ [y]).filter A_keep = A.filter A_keep := by
  rw [List.filter_append, List.filter_cons, if_neg (by rw [h]; decide)]
  simp
theorem A_split {A : List A_cd} {n : Nat} (h : A.length = n + 1) : ∃ A1 y, A = A1 ++ [y] ∧ A1.length = n := by
  refine ⟨A.dropLast, A.getLast (by intro q; rw [q] at h; cases h), (List.dropLast_concat_getLast _).symm, by simp [h]⟩
theorem s_dtl {w : P_Lw} (hw : P_Cw w) {d : Nat} {Q : P_R → P_A → Prop} {ns : Int} : ∀ (n : Nat) (σ : P_A) (A B : List A_cd) (t i : Int), i = (n : Int) - 1 → A.length = n → (0 ≤ t ∧ t ≤ 12 - n) → (A ++ B).length ≤ 12 → A_KL σ (A ++ B) → A_oks ns (A ++ B) → (∀ σ', A_kp σ σ' → A_KL σ' (A.filter A_keep ++ B) → Q (.inl (some (P_z (t + ((A.length : Int) - ((A.filter A_keep).length : Int)))))) σ') → P_aw w (d + 4) 71 9 [.ref (w.2.2 13), P_z t, P_z i] [] σ Q := by
  intro n
  induction n with
  | zero =>
    intro σ A B t i hi hA ht h12 hK hok q
    obtain rfl : A = [] := List.length_eq_zero_iff.mp hA
    refine P_aw_op (L' := [.ref (w.2.2 13), P_z t, P_z i]) (st' := [P_z i]) P_i71_9 rfl (show P_aw _ _ _ 10 [.ref (w.2.2 13), P_z t, P_z i] [P_z i] _ _ from ?_)
    refine P_aw_izt P_i71_10 ⟨by omega, by omega⟩ (P_ci_ltt (by omega)) (show P_aw _ _ _ 51 [.ref (w.2.2 13), P_z t, P_z i] [] _ _ from ?_)
    refine P_aw_op (L' := [.ref (w.2.2 13), P_z t, P_z i]) (st' := [P_z t]) P_i71_51 rfl (show P_aw _ _ _ 52 [.ref (w.2.2 13), P_z t, P_z i] [P_z t] _ _ from ?_)
    refine P_aw_end P_i71_52 rfl rfl (fun _ => rfl) rfl ?_
    exact P_qz (by show t = t + (0 - 0); omega) rfl (q σ A_kp_rf hK)
  | succ n ih =>
    intro σ A B t i hi hA ht h12 hK hok q
    obtain ⟨A1, y, rfl, hA1⟩ := A_split hA
    rw [← A_app] at hK hok
    have h12' : (A1 ++ y :: B).length ≤ 12 := by simp at h12 ⊢; omega
    have hl := A_len (A := A1) (y := y) (B := B)
    have hy : ∀ f, A_lc (A1 ++ y :: B) i f = A_cf y f := fun f => A_lc_mid (by omega) f
    have hoy : A_ok ns y := hok y A_mem
    have hz := hK.2.1
    refine P_aw_op (L' := [.ref (w.2.2 13), P_z t, P_z i]) (st' := [P_z i]) P_i71_9 rfl (show P_aw _ _ _ 10 [.ref (w.2.2 13), P_z t, P_z i] [P_z i] _ _ from ?_)
    refine P_aw_izf P_i71_10 ⟨by omega, by omega⟩ (P_ci_ltf (by omega)) (show P_aw _ _ _ 13 [.ref (w.2.2 13), P_z t, P_z i] [] _ _ from ?_)
    refine P_aw_op (L' := [.ref (w.2.2 13), P_z t, P_z i]) (st' := [.ref (w.2.2 13)]) P_i71_13 rfl (show P_aw _ _ _ 14 [.ref (w.2.2 13), P_z t, P_z i] [.ref (w.2.2 13)] _ _ from ?_)
    refine P_aw_op (L' := [.ref (w.2.2 13), P_z t, P_z i]) (st' := [P_z i, .ref (w.2.2 13)]) P_i71_14 rfl (show P_aw _ _ _ 15 [.ref (w.2.2 13), P_z t, P_z i] [P_z i, .ref (w.2.2 13)] _ _ from ?_)
    refine P_aw_call P_i71_15 rfl rfl (fun _ => rfl) rfl rfl rfl rfl (y2 := 59) (as := [.ref (w.2.2 13), P_z i]) (r0 := []) (P_inv_v (hw.2.1 13 (by decide)) (hw.s rfl) rfl rfl) (Nat.le_of_ble_eq_true rfl) (by decide) rfl (Nat.le_of_ble_eq_true rfl) (show P_aw _ _ _ 0 [.ref (w.2.2 13), P_z i, P_un] [] _ _ from ?_)
    refine P_aw_op (L' := [.ref (w.2.2 13), P_z i, P_un]) (st' := [P_z i]) P_i59_0 rfl (show P_aw _ _ _ 1 [.ref (w.2.2 13), P_z i, P_un] [P_z i] _ _ from ?_)
    refine P_aw_izf P_i59_1 ⟨by omega, by omega⟩ (P_ci_ltf (by omega)) (show P_aw _ _ _ 4 [.ref (w.2.2 13), P_z i, P_un] [] _ _ from ?_)
    refine P_aw_op (L' := [.ref (w.2.2 13), P_z i, P_un]) (st' := [P_z i]) P_i59_4 rfl (show P_aw _ _ _ 5 [.ref (w.2.2 13), P_z i, P_un] [P_z i] _ _ from ?_)
    refine P_aw_op (L' := [.ref (w.2.2 13), P_z i, P_un]) (st' := [.ref (w.2.2 13), P_z i]) P_i59_5 rfl (show P_aw _ _ _ 6 [.ref (w.2.2 13), P_z i, P_un] [.ref (w.2.2 13), P_z i] _ _ from ?_)
    refine P_aw_getR P_i59_6 (hw.2.1 13 (by decide)) (hw.s rfl) rfl rfl (show P_aw _ _ _ 9 [.ref (w.2.2 13), P_z i, P_un] [.ref (w.2.2 14), P_z i] _ _ from ?_)
    refine P_aw_clen P_i59_9 (hw.2.1 14 (by decide)) (hw.s rfl) rfl (show P_aw _ _ _ 10 [.ref (w.2.2 13), P_z i, P_un] [P_z 12, P_z i] _ _ from ?_)
    refine P_aw_ict P_i59_10 ⟨by omega, by omega⟩ ⟨by decide, by decide⟩ (P_ci_ltt (by omega)) (show P_aw _ _ _ 18 [.ref (w.2.2 13), P_z i, P_un] [] _ _ from ?_)
    refine P_aw_op (L' := [.ref (w.2.2 13), P_z i, P_un]) (st' := [.ref (w.2.2 13)]) P_i59_18 rfl (show P_aw _ _ _ 19 [.ref (w.2.2 13), P_z i, P_un] [.ref (w.2.2 13)] _ _ from ?_)
    refine P_aw_getR P_i59_19 (hw.2.1 13 (by decide)) (hw.s rfl) rfl rfl (show P_aw _ _ _ 22 [.ref (w.2.2 13), P_z i, P_un] [.ref (w.2.2 14)] _ _ from ?_)
    refine P_aw_op (L' := [.ref (w.2.2 13), P_z i, P_un]) (st' := [P_z i, .ref (w.2.2 14)]) P_i59_22 rfl (show P_aw _ _ _ 23 [.ref (w.2.2 13), P_z i, P_un] [P_z i, .ref (w.2.2 14)] _ _ from ?_)
    refine P_aw_cld P_i59_23 (hw.2.1 14 (by decide)) (hw.s rfl) (by decide) (by omega) (P_c12 (by omega)) (by decide) (show P_aw _ _ _ 24 [.ref (w.2.2 13), P_z i, P_un] [.ref (w.2.2 (15 + i.toNat))] _ _ from ?_)
    refine P_aw_op (L' := [.ref (w.2.2 13), P_z i, .ref (w.2.2 (15 + i.toNat))]) (st' := []) P_i59_24 rfl (show P_aw _ _ _ 25 [.ref (w.2.2 13), P_z i, .ref (w.2.2 (15 + i.toNat))] [] _ _ from ?_)
    refine P_aw_op (L' := [.ref (w.2.2 13), P_z i, .ref (w.2.2 (15 + i.toNat))]) (st' := [.ref (w.2.2 (15 + i.toNat))]) P_i59_25 rfl (show P_aw _ _ _ 26 [.ref (w.2.2 13), P_z i, .ref (w.2.2 (15 + i.toNat))] [.ref (w.2.2 (15 + i.toNat))] _ _ from ?_)
    refine P_aw_brt P_i59_26 rfl (show P_aw _ _ _ 36 [.ref (w.2.2 13), P_z i, .ref (w.2.2 (15 + i.toNat))] [] _ _ from ?_)
    refine P_aw_op (L' := [.ref (w.2.2 13), P_z i, .ref (w.2.2 (15 + i.toNat))]) (st' := [.ref (w.2.2 (15 + i.toNat))]) P_i59_36 rfl (show P_aw _ _ _ 37 [.ref (w.2.2 13), P_z i, .ref (w.2.2 (15 + i.toNat))] [.ref (w.2.2 (15 + i.toNat))] _ _ from ?_)
    refine P_aw_end P_i59_37 rfl rfl (fun _ => rfl) rfl ?_
    show P_aw _ _ _ 18 [.ref (w.2.2 13), P_z t, P_z i] [.ref (w.2.2 (15 + i.toNat))] _ _
    have hg1 := A_ok_rg hoy
    refine P_aw_getv P_i71_18 (hw.c (by omega)).2 (hw.c (by omega)).1 rfl rfl ((hK.2.2 i 1 (by omega) (by omega) (by omega)).trans (hy 1)) (show P_aw _ _ _ 21 [.ref (w.2.2 13), P_z t, P_z i] [P_z (A_cf y 1)] _ _ from ?_)
    refine P_aw_op (L' := [.ref (w.2.2 13), P_z t, P_z i]) (st' := [P_z 9, P_z (A_cf y 1)]) P_i71_21 (P_o_bi (by decide)) (show P_aw _ _ _ 23 [.ref (w.2.2 13), P_z t, P_z i] [P_z 9, P_z (A_cf y 1)] _ _ from ?_)
    by_cases hc2 : (A_cf y 1) = 9
    · refine P_aw_icf P_i71_23 ⟨by omega, by omega⟩ ⟨by decide, by decide⟩ (P_ci_nef (by omega)) (show P_aw _ _ _ 26 [.ref (w.2.2 13), P_z t, P_z i] [] _ _ from ?_)
      refine P_aw_op (L' := [.ref (w.2.2 13), P_z t, P_z i]) (st' := [.ref (w.2.2 13)]) P_i71_26 rfl (show P_aw _ _ _ 27 [.ref (w.2.2 13), P_z t, P_z i] [.ref (w.2.2 13)] _ _ from ?_)
      refine P_aw_op (L' := [.ref (w.2.2 13), P_z t, P_z i]) (st' := [P_z i, .ref (w.2.2 13)]) P_i71_27 rfl (show P_aw _ _ _ 28 [.ref (w.2.2 13), P_z t, P_z i] [P_z i, .ref (w.2.2 13)] _ _ from ?_)
      refine P_aw_call P_i71_28 rfl rfl (fun _ => rfl) rfl rfl rfl rfl (y2 := 59) (as := [.ref (w.2.2 13), P_z i]) (r0 := []) (P_inv_v (hw.2.1 13 (by decide)) (hw.s rfl) rfl rfl) (Nat.le_of_ble_eq_true rfl) (by decide) rfl (Nat.le_of_ble_eq_true rfl) (show P_aw _ _ _ 0 [.ref (w.2.2 13), P_z i, P_un] [] _ _ from ?_)
      refine P_aw_op (L' := [.ref (w.2.2 13), P_z i, P_un]) (st' := [P_z i]) P_i59_0 rfl (show P_aw _ _ _ 1 [.ref (w.2.2 13), P_z i, P_un] [P_z i] _ _ from ?_)
      refine P_aw_izf P_i59_1 ⟨by omega, by omega⟩ (P_ci_ltf (by omega)) (show P_aw _ _ _ 4 [.ref (w.2.2 13), P_z i, P_un] [] _ _ from ?_)
      refine P_aw_op (L' := [.ref (w.2.2 13), P_z i, P_un]) (st' := [P_z i]) P_i59_4 rfl (show P_aw _ _ _ 5 [.ref (w.2.2 13), P_z i, P_un] [P_z i] _ _ from ?_)
      refine P_aw_op (L' := [.ref (w.2.2 13), P_z i, P_un]) (st' := [.ref (w.2.2 13), P_z i]) P_i59_5 rfl (show P_aw _ _ _ 6 [.ref (w.2.2 13), P_z i, P_un] [.ref (w.2.2 13), P_z i] _ _ from ?_)
      refine P_aw_getR P_i59_6 (hw.2.1 13 (by decide)) (hw.s rfl) rfl rfl (show P_aw _ _ _ 9 [.ref (w.2.2 13), P_z i, P_un] [.ref (w.2.2 14), P_z i] _ _ from ?_)
      refine P_aw_clen P_i59_9 (hw.2.1 14 (by decide)) (hw.s rfl) rfl (show P_aw _ _ _ 10 [.ref (w.2.2 13), P_z i, P_un] [P_z 12, P_z i] _ _ from ?_)
      refine P_aw_ict P_i59_10 ⟨by omega, by omega⟩ ⟨by decide, by decide⟩ (P_ci_ltt (by omega)) (show P_aw _ _ _ 18 [.ref (w.2.2 13), P_z i, P_un] [] _ _ from ?_)
      refine P_aw_op (L' := [.ref (w.2.2 13), P_z i, P_un]) (st' := [.ref (w.2.2 13)]) P_i59_18 rfl (show P_aw _ _ _ 19 [.ref (w.2.2 13), P_z i, P_un] [.ref (w.2.2 13)] _ _ from ?_)
      refine P_aw_getR P_i59_19 (hw.2.1 13 (by decide)) (hw.s rfl) rfl rfl (show P_aw _ _ _ 22 [.ref (w.2.2 13), P_z i, P_un] [.ref (w.2.2 14)] _ _ from ?_)
      refine P_aw_op (L' := [.ref (w.2.2 13), P_z i, P_un]) (st' := [P_z i, .ref (w.2.2 14)]) P_i59_22 rfl (show P_aw _ _ _ 23 [.ref (w.2.2 13), P_z i, P_un] [P_z i, .ref (w.2.2 14)] _ _ from ?_)
      refine P_aw_cld P_i59_23 (hw.2.1 14 (by decide)) (hw.s rfl) (by decide) (by omega) (P_c12 (by omega)) (by decide) (show P_aw _ _ _ 24 [.ref (w.2.2 13), P_z i, P_un] [.ref (w.2.2 (15 + i.toNat))] _ _ from ?_)
      refine P_aw_op (L' := [.ref (w.2.2 13), P_z i, .ref (w.2.2 (15 + i.toNat))]) (st' := []) P_i59_24 rfl (show P_aw _ _ _ 25 [.ref (w.2.2 13), P_z i, .ref (w.2.2 (15 + i.toNat))] [] _ _ from ?_)
      refine P_aw_op (L' := [.ref (w.2.2 13), P_z i, .ref (w.2.2 (15 + i.toNat))]) (st' := [.ref (w.2.2 (15 + i.toNat))]) P_i59_25 rfl (show P_aw _ _ _ 26 [.ref (w.2.2 13), P_z i, .ref (w.2.2 (15 + i.toNat))] [.ref (w.2.2 (15 + i.toNat))] _ _ from ?_)
      refine P_aw_brt P_i59_26 rfl (show P_aw _ _ _ 36 [.ref (w.2.2 13), P_z i, .ref (w.2.2 (15 + i.toNat))] [] _ _ from ?_)
      refine P_aw_op (L' := [.ref (w.2.2 13), P_z i, .ref (w.2.2 (15 + i.toNat))]) (st' := [.ref (w.2.2 (15 + i.toNat))]) P_i59_36 rfl (show P_aw _ _ _ 37 [.ref (w.2.2 13), P_z i, .ref (w.2.2 (15 + i.toNat))] [.ref (w.2.2 (15 + i.toNat))] _ _ from ?_)
      refine P_aw_end P_i59_37 rfl rfl (fun _ => rfl) rfl ?_
      show P_aw _ _ _ 31 [.ref (w.2.2 13), P_z t, P_z i] [.ref (w.2.2 (15 + i.toNat))] _ _
      refine P_aw_call P_i71_31 rfl rfl (fun _ => rfl) rfl rfl rfl rfl (y2 := 16) (as := [.ref (w.2.2 (15 + i.toNat))]) (r0 := []) (P_inv_v (hw.c (by omega)).2 (hw.c (by omega)).1 rfl rfl) (Nat.le_of_ble_eq_true rfl) (by decide) rfl (Nat.le_of_ble_eq_true rfl) (show P_aw _ _ _ 0 [.ref (w.2.2 (15 + i.toNat))] [] _ _ from ?_)
      refine P_aw_op (L' := [.ref (w.2.2 (15 + i.toNat))]) (st' := [.ref (w.2.2 (15 + i.toNat))]) P_i16_0 rfl (show P_aw _ _ _ 1 [.ref (w.2.2 (15 + i.toNat))] [.ref (w.2.2 (15 + i.toNat))] _ _ from ?_)
      have hg3 := A_ok_rg hoy
      refine P_aw_getv P_i16_1 (hw.c (by omega)).2 (hw.c (by omega)).1 rfl rfl ((hK.2.2 i 0 (by omega) (by omega) (by omega)).trans (hy 0)) (show P_aw _ _ _ 4 [.ref (w.2.2 (15 + i.toNat))] [P_z (A_cf y 0)] _ _ from ?_)
      refine P_aw_op (L' := [.ref (w.2.2 (15 + i.toNat))]) (st' := [.ref (w.2.2 (15 + i.toNat)), P_z (A_cf y 0)]) P_i16_4 rfl (show P_aw _ _ _ 5 [.ref (w.2.2 (15 + i.toNat))] [.ref (w.2.2 (15 + i.toNat)), P_z (A_cf y 0)] _ _ from ?_)
      have hg4 := A_ok_rg hoy
      refine P_aw_getv P_i16_5 (hw.c (by omega)).2 (hw.c (by omega)).1 rfl rfl ((hK.2.2 i 2 (by omega) (by omega) (by omega)).trans (hy 2)) (show P_aw _ _ _ 8 [.ref (w.2.2 (15 + i.toNat))] [P_z (A_cf y 2), P_z (A_cf y 0)] _ _ from ?_)
      by_cases hc5 : (A_cf y 0) = (A_cf y 2)
      · refine P_aw_icf P_i16_8 ⟨by omega, by omega⟩ ⟨by omega, by omega⟩ (P_ci_nef (by omega)) (show P_aw _ _ _ 11 [.ref (w.2.2 (15 + i.toNat))] [] _ _ from ?_)
        refine P_aw_op (L' := [.ref (w.2.2 (15 + i.toNat))]) (st' := [P_z 1]) P_i16_11 rfl (show P_aw _ _ _ 12 [.ref (w.2.2 (15 + i.toNat))] [P_z 1] _ _ from ?_)
        refine P_aw_goto P_i16_12 (show P_aw _ _ _ 16 [.ref (w.2.2 (15 + i.toNat))] [P_z 1] _ _ from ?_)
        refine P_aw_end P_i16_16 rfl rfl (fun _ => rfl) rfl ?_
        show P_aw _ _ _ 34 [.ref (w.2.2 13), P_z t, P_z i] [P_z 1] _ _
        refine P_aw_izf P_i71_34 ⟨by decide, by decide⟩ (P_ci_eqf (by omega)) (show P_aw _ _ _ 37 [.ref (w.2.2 13), P_z t, P_z i] [] _ _ from ?_)
        refine P_aw_op (L' := [.ref (w.2.2 13), P_z t, P_z i]) (st' := [.ref (w.2.2 13)]) P_i71_37 rfl (show P_aw _ _ _ 38 [.ref (w.2.2 13), P_z t, P_z i] [.ref (w.2.2 13)] _ _ from ?_)
        refine P_aw_op (L' := [.ref (w.2.2 13), P_z t, P_z i]) (st' := [P_z i, .ref (w.2.2 13)]) P_i71_38 rfl (show P_aw _ _ _ 39 [.ref (w.2.2 13), P_z t, P_z i] [P_z i, .ref (w.2.2 13)] _ _ from ?_)
        refine P_aw_call P_i71_39 rfl rfl (fun _ => rfl) rfl rfl rfl rfl (y2 := 61) (as := [.ref (w.2.2 13), P_z i]) (r0 := []) (P_inv_v (hw.2.1 13 (by decide)) (hw.s rfl) rfl rfl) (Nat.le_of_ble_eq_true rfl) (by decide) rfl (Nat.le_of_ble_eq_true rfl) (s_rmc hw hK (A_KR_of hok) (by omega) (fun σ2 k1 k2 => ?_))
        show P_aw _ _ _ 42 [.ref (w.2.2 13), P_z t, P_z i] [] _ _
        refine P_aw_op (L' := [.ref (w.2.2 13), P_z (t + 1), P_z i]) (st' := []) P_i71_42 (P_o_iinc rfl) (show P_aw _ _ _ 45 [.ref (w.2.2 13), P_z (t + 1), P_z i] [] _ _ from ?_)
        refine P_aw_op (L' := [.ref (w.2.2 13), P_z (t + 1), P_z (i + (-1))]) (st' := []) P_i71_45 (P_o_iinc rfl) (show P_aw _ _ _ 48 [.ref (w.2.2 13), P_z (t + 1), P_z (i + (-1))] [] _ _ from ?_)
        refine P_aw_goto P_i71_48 (show P_aw _ _ _ 9 [.ref (w.2.2 13), P_z (t + 1), P_z (i + (-1))] [] _ _ from ?_)
        have e : (A1 ++ [y]).filter A_keep = A1.filter A_keep := (A_flt_f (A_keep_f (by omega))); exact ih σ2 A1 B (t + 1) (i + -1) (by omega) hA1 (by omega) (by simp at h12 ⊢; omega) (A_KL_rm (by omega) k2) (fun z hz => hok z (by rcases List.mem_append.mp hz with q | q; exact List.mem_append_left _ q; exact List.mem_append_right _ (List.mem_cons_of_mem _ q))) (fun σ' h1 h2 => P_qz (by rw [e]; simp; omega) rfl (q σ' (A_kp_tr k1 h1) (by rw [e]; exact h2)))
      · refine P_aw_ict P_i16_8 ⟨by omega, by omega⟩ ⟨by omega, by omega⟩ (P_ci_net (by omega)) (show P_aw _ _ _ 15 [.ref (w.2.2 (15 + i.toNat))] [] _ _ from ?_)
        refine P_aw_op (L' := [.ref (w.2.2 (15 + i.toNat))]) (st' := [P_z 0]) P_i16_15 rfl (show P_aw _ _ _ 16 [.ref (w.2.2 (15 + i.toNat))] [P_z 0] _ _ from ?_)
        refine P_aw_end P_i16_16 rfl rfl (fun _ => rfl) rfl ?_
        show P_aw _ _ _ 34 [.ref (w.2.2 13), P_z t, P_z i] [P_z 0] _ _
        refine P_aw_izt P_i71_34 ⟨by decide, by decide⟩ (P_ci_eqt (by omega)) (show P_aw _ _ _ 45 [.ref (w.2.2 13), P_z t, P_z i] [] _ _ from ?_)
        refine P_aw_op (L' := [.ref (w.2.2 13), P_z t, P_z (i + (-1))]) (st' := []) P_i71_45 (P_o_iinc rfl) (show P_aw _ _ _ 48 [.ref (w.2.2 13), P_z t, P_z (i + (-1))] [] _ _ from ?_)
        refine P_aw_goto P_i71_48 (show P_aw _ _ _ 9 [.ref (w.2.2 13), P_z t, P_z (i + (-1))] [] _ _ from ?_)
        have e : (A1 ++ [y]).filter A_keep ++ B = A1.filter A_keep ++ (y :: B) := (by rw [A_flt_t (A_keep_t (by omega))]; simp); have e2 : ((A1 ++ [y]).filter A_keep).length = (A1.filter A_keep).length + 1 := (by rw [A_flt_t (A_keep_t (by omega))]; simp); exact ih σ A1 (y :: B) t (i + -1) (by omega) hA1 (by omega) h12' hK hok (fun σ' h1 h2 => P_qz (by rw [e2]; simp; omega) rfl (q σ' h1 (by rw [e]; exact h2)))
    · refine P_aw_ict P_i71_23 ⟨by omega, by omega⟩ ⟨by decide, by decide⟩ (P_ci_net (by omega)) (show P_aw _ _ _ 45 [.ref (w.2.2 13), P_z t, P_z i] [] _ _ from ?_)
      refine P_aw_op (L' := [.ref (w.2.2 13), P_z t, P_z (i + (-1))]) (st' := []) P_i71_45 (P_o_iinc rfl) (show P_aw _ _ _ 48 [.ref (w.2.2 13), P_z t, P_z (i + (-1))] [] _ _ from ?_)
      refine P_aw_goto P_i71_48 (show P_aw _ _ _ 9 [.ref (w.2.2 13), P_z t, P_z (i + (-1))] [] _ _ from ?_)
      have e : (A1 ++ [y]).filter A_keep ++ B = A1.filter A_keep ++ (y :: B) := (by rw [A_flt_t (A_keep_t (by omega))]; simp); have e2 : ((A1 ++ [y]).filter A_keep).length = (A1.filter A_keep).length + 1 := (by rw [A_flt_t (A_keep_t (by omega))]; simp); exact ih σ A1 (y :: B) t (i + -1) (by omega) hA1 (by omega) h12' hK hok (fun σ' h1 h2 => P_qz (by rw [e2]; simp; omega) rfl (q σ' h1 (by rw [e]; exact h2)))

theorem s_dt {w : P_Lw} (hw : P_Cw w) {d : Nat} {Q : P_R → P_A → Prop} {σ : P_A} {ns : Int} {cs : List A_cd} (hK : A_KL σ cs) (hok : A_oks ns cs) (q : ∀ σ', A_kp σ σ' → A_KL σ' (cs.filter A_keep) → Q (.inl (some (P_z ((cs.length : Int) - ((cs.filter A_keep).length : Int))))) σ') : P_aw w (d + 4) 71 0 [.ref (w.2.2 13), P_un, P_un] [] σ Q := by
  have hz := hK.2.1
  refine P_aw_op (L' := [.ref (w.2.2 13), P_un, P_un]) (st' := [P_z 0]) P_i71_0 rfl (show P_aw _ _ _ 1 [.ref (w.2.2 13), P_un, P_un] [P_z 0] _ _ from ?_)
  refine P_aw_op (L' := [.ref (w.2.2 13), P_z 0, P_un]) (st' := []) P_i71_1 rfl (show P_aw _ _ _ 2 [.ref (w.2.2 13), P_z 0, P_un] [] _ _ from ?_)
  refine P_aw_op (L' := [.ref (w.2.2 13), P_z 0, P_un]) (st' := [.ref (w.2.2 13)]) P_i71_2 rfl (show P_aw _ _ _ 3 [.ref (w.2.2 13), P_z 0, P_un] [.ref (w.2.2 13)] _ _ from ?_)
  refine P_aw_getv P_i71_3 (hw.2.1 13 (by decide)) (hw.s rfl) rfl rfl (hK.1) (show P_aw _ _ _ 6 [.ref (w.2.2 13), P_z 0, P_un] [P_z (cs.length : Int)] _ _ from ?_)
  refine P_aw_op (L' := [.ref (w.2.2 13), P_z 0, P_un]) (st' := [P_z 1, P_z (cs.length : Int)]) P_i71_6 rfl (show P_aw _ _ _ 7 [.ref (w.2.2 13), P_z 0, P_un] [P_z 1, P_z (cs.length : Int)] _ _ from ?_)
  refine P_aw_op (L' := [.ref (w.2.2 13), P_z 0, P_un]) (st' := [P_z ((cs.length : Int) - 1)]) P_i71_7 P_o_isub (show P_aw _ _ _ 8 [.ref (w.2.2 13), P_z 0, P_un] [P_z ((cs.length : Int) - 1)] _ _ from ?_)
  refine P_aw_op (L' := [.ref (w.2.2 13), P_z 0, P_z ((cs.length : Int) - 1)]) (st' := []) P_i71_8 rfl (show P_aw _ _ _ 9 [.ref (w.2.2 13), P_z 0, P_z ((cs.length : Int) - 1)] [] _ _ from ?_)
  exact s_dtl hw cs.length σ cs [] 0 _ (by omega) rfl (by omega) (by simp; omega) (by simpa using hK) (by simpa using hok) (fun σ' h1 h2 => P_qz (by omega) rfl (q σ' h1 (by simpa using h2)))

def A_lvl (x : A_cd) (v : Int) : A_cd := (x.1, x.2.1, x.2.2.1, v)
def A_lw (od : Int → Int) (x : A_cd) : Int := A_low od (A_cf x 0) (A_cf x 2)
def A_down (od : Int → Int) (x : A_cd) : A_cd := if A_lw od x < A_cf x 3 then A_lvl x (A_lw od x) else x
def A_up (od : Int → Int) (x : A_cd) : A_cd := A_lvl x (max (A_cf x 3) (A_lw od x))
/-- how many are brought down -/
def A_nd (od : Int → Int) (cs : List A_cd) : Int := ((cs.filter (fun x => decide (A_lw od x < A_cf x 3))).length : Int)
theorem A_ok_lvl {ns v : Int} {x : A_cd} (h : A_ok ns x) (hv : 0 ≤ v ∧ v ≤ 2) : A_ok ns (A_lvl x v) := ⟨h.1, h.2.1, h.2.2.1, hv⟩
theorem A_lvl_same {x : A_cd} : A_lvl x (A_cf x 3) = x := rfl
theorem s_bdl {w : P_Lw} (hw : P_Cw w) {d : Nat} {Q : P_R → P_A → Prop} {ns : Int} {od : Int → Int} : ∀ (n : Nat) (σ : P_A) (A B : List A_cd) (t : Int) (i : Int), i = ((A.length : Nat) : Int) → B.length = n → (0 ≤ t ∧ t ≤ 12 - n) → A_O σ ns od → A_KL σ (A ++ B) → A_oks ns B → (∀ σ', A_kp σ σ' → A_KL σ' (A ++ B.map (A_down od)) → Q (.inl (some (P_z (t + A_nd od B)))) σ') → P_aw w (d + 4) 76 4 [.ref (w.2.2 13), P_z t, P_z i, P_un] [] σ Q := by
  intro n
  induction n with
  | zero =>
    intro σ A B t i hi hB ht hO hK hok q
    obtain rfl : B = [] := List.length_eq_zero_iff.mp hB
    have hl : ((A ++ []).length : Int) = (A.length : Int) := by simp
    have hz := hK.2.1
    refine P_aw_op (L' := [.ref (w.2.2 13), P_z t, P_z i, P_un]) (st' := [P_z i]) P_i76_4 rfl (show P_aw _ _ _ 5 [.ref (w.2.2 13), P_z t, P_z i, P_un] [P_z i] _ _ from ?_)
    refine P_aw_op (L' := [.ref (w.2.2 13), P_z t, P_z i, P_un]) (st' := [.ref (w.2.2 13), P_z i]) P_i76_5 rfl (show P_aw _ _ _ 6 [.ref (w.2.2 13), P_z t, P_z i, P_un] [.ref (w.2.2 13), P_z i] _ _ from ?_)
    have hg1 := hK.2.1
    refine P_aw_getv P_i76_6 (hw.2.1 13 (by decide)) (hw.s rfl) rfl rfl (hK.1) (show P_aw _ _ _ 9 [.ref (w.2.2 13), P_z t, P_z i, P_un] [P_z ((A ++ []).length : Int), P_z i] _ _ from ?_)
    refine P_aw_ict P_i76_9 ⟨by omega, by omega⟩ ⟨by omega, by omega⟩ (P_ci_get (by omega)) (show P_aw _ _ _ 52 [.ref (w.2.2 13), P_z t, P_z i, P_un] [] _ _ from ?_)
    refine P_aw_op (L' := [.ref (w.2.2 13), P_z t, P_z i, P_un]) (st' := [P_z t]) P_i76_52 rfl (show P_aw _ _ _ 53 [.ref (w.2.2 13), P_z t, P_z i, P_un] [P_z t] _ _ from ?_)
    refine P_aw_end P_i76_53 rfl rfl (fun _ => rfl) rfl ?_
    exact P_qz (by simp [A_nd]) rfl (q σ A_kp_rf hK)
  | succ n ih =>
    intro σ A B t i hi hB ht hO hK hok q
    obtain ⟨y, B, rfl⟩ : ∃ x B', B = x :: B' := by
      cases B with
      | nil => exact absurd hB (by simp)
      | cons x B => exact ⟨x, B, rfl⟩
    have hlB : B.length = n := Nat.succ.inj hB
    have hl := A_len (A := A) (y := y) (B := B)
    have hy := A_lc_mid (A := A) (B := B) (y := y) hi
    have hok1 : A_ok ns y := hok y List.mem_cons_self
    have hokr := A_ok_rg hok1
    have hz := hK.2.1
    refine P_aw_op (L' := [.ref (w.2.2 13), P_z t, P_z i, P_un]) (st' := [P_z i]) P_i76_4 rfl (show P_aw _ _ _ 5 [.ref (w.2.2 13), P_z t, P_z i, P_un] [P_z i] _ _ from ?_)
    refine P_aw_op (L' := [.ref (w.2.2 13), P_z t, P_z i, P_un]) (st' := [.ref (w.2.2 13), P_z i]) P_i76_5 rfl (show P_aw _ _ _ 6 [.ref (w.2.2 13), P_z t, P_z i, P_un] [.ref (w.2.2 13), P_z i] _ _ from ?_)
    have hg1 := hK.2.1
    refine P_aw_getv P_i76_6 (hw.2.1 13 (by decide)) (hw.s rfl) rfl rfl (hK.1) (show P_aw _ _ _ 9 [.ref (w.2.2 13), P_z t, P_z i, P_un] [P_z ((A ++ y :: B).length : Int), P_z i] _ _ from ?_)
    refine P_aw_icf P_i76_9 ⟨by omega, by omega⟩ ⟨by omega, by omega⟩ (P_ci_gef (by omega)) (show P_aw _ _ _ 12 [.ref (w.2.2 13), P_z t, P_z i, P_un] [] _ _ from ?_)
    refine P_aw_op (L' := [.ref (w.2.2 13), P_z t, P_z i, P_un]) (st' := [.ref (w.2.2 13)]) P_i76_12 rfl (show P_aw _ _ _ 13 [.ref (w.2.2 13), P_z t, P_z i, P_un] [.ref (w.2.2 13)] _ _ from ?_)
    refine P_aw_op (L' := [.ref (w.2.2 13), P_z t, P_z i, P_un]) (st' := [.ref (w.2.2 13), .ref (w.2.2 13)]) P_i76_13 rfl (show P_aw _ _ _ 14 [.ref (w.2.2 13), P_z t, P_z i, P_un] [.ref (w.2.2 13), .ref (w.2.2 13)] _ _ from ?_)
    refine P_aw_op (L' := [.ref (w.2.2 13), P_z t, P_z i, P_un]) (st' := [P_z i, .ref (w.2.2 13), .ref (w.2.2 13)]) P_i76_14 rfl (show P_aw _ _ _ 15 [.ref (w.2.2 13), P_z t, P_z i, P_un] [P_z i, .ref (w.2.2 13), .ref (w.2.2 13)] _ _ from ?_)
    refine P_aw_call P_i76_15 rfl rfl (fun _ => rfl) rfl rfl rfl rfl (y2 := 59) (as := [.ref (w.2.2 13), P_z i]) (r0 := [.ref (w.2.2 13)]) (P_inv_v (hw.2.1 13 (by decide)) (hw.s rfl) rfl rfl) (Nat.le_of_ble_eq_true rfl) (by decide) rfl (Nat.le_of_ble_eq_true rfl) (show P_aw _ _ _ 0 [.ref (w.2.2 13), P_z i, P_un] [] _ _ from ?_)
    refine P_aw_op (L' := [.ref (w.2.2 13), P_z i, P_un]) (st' := [P_z i]) P_i59_0 rfl (show P_aw _ _ _ 1 [.ref (w.2.2 13), P_z i, P_un] [P_z i] _ _ from ?_)
    refine P_aw_izf P_i59_1 ⟨by omega, by omega⟩ (P_ci_ltf (by omega)) (show P_aw _ _ _ 4 [.ref (w.2.2 13), P_z i, P_un] [] _ _ from ?_)
    refine P_aw_op (L' := [.ref (w.2.2 13), P_z i, P_un]) (st' := [P_z i]) P_i59_4 rfl (show P_aw _ _ _ 5 [.ref (w.2.2 13), P_z i, P_un] [P_z i] _ _ from ?_)
    refine P_aw_op (L' := [.ref (w.2.2 13), P_z i, P_un]) (st' := [.ref (w.2.2 13), P_z i]) P_i59_5 rfl (show P_aw _ _ _ 6 [.ref (w.2.2 13), P_z i, P_un] [.ref (w.2.2 13), P_z i] _ _ from ?_)
    refine P_aw_getR P_i59_6 (hw.2.1 13 (by decide)) (hw.s rfl) rfl rfl (show P_aw _ _ _ 9 [.ref (w.2.2 13), P_z i, P_un] [.ref (w.2.2 14), P_z i] _ _ from ?_)
    refine P_aw_clen P_i59_9 (hw.2.1 14 (by decide)) (hw.s rfl) rfl (show P_aw _ _ _ 10 [.ref (w.2.2 13), P_z i, P_un] [P_z 12, P_z i] _ _ from ?_)
    refine P_aw_ict P_i59_10 ⟨by omega, by omega⟩ ⟨by decide, by decide⟩ (P_ci_ltt (by omega)) (show P_aw _ _ _ 18 [.ref (w.2.2 13), P_z i, P_un] [] _ _ from ?_)
    refine P_aw_op (L' := [.ref (w.2.2 13), P_z i, P_un]) (st' := [.ref (w.2.2 13)]) P_i59_18 rfl (show P_aw _ _ _ 19 [.ref (w.2.2 13), P_z i, P_un] [.ref (w.2.2 13)] _ _ from ?_)
    refine P_aw_getR P_i59_19 (hw.2.1 13 (by decide)) (hw.s rfl) rfl rfl (show P_aw _ _ _ 22 [.ref (w.2.2 13), P_z i, P_un] [.ref (w.2.2 14)] _ _ from ?_)
    refine P_aw_op (L' := [.ref (w.2.2 13), P_z i, P_un]) (st' := [P_z i, .ref (w.2.2 14)]) P_i59_22 rfl (show P_aw _ _ _ 23 [.ref (w.2.2 13), P_z i, P_un] [P_z i, .ref (w.2.2 14)] _ _ from ?_)
    refine P_aw_cld P_i59_23 (hw.2.1 14 (by decide)) (hw.s rfl) (by decide) (by omega) (P_c12 (by omega)) (by decide) (show P_aw _ _ _ 24 [.ref (w.2.2 13), P_z i, P_un] [.ref (w.2.2 (15 + i.toNat))] _ _ from ?_)
    refine P_aw_op (L' := [.ref (w.2.2 13), P_z i, .ref (w.2.2 (15 + i.toNat))]) (st' := []) P_i59_24 rfl (show P_aw _ _ _ 25 [.ref (w.2.2 13), P_z i, .ref (w.2.2 (15 + i.toNat))] [] _ _ from ?_)
    refine P_aw_op (L' := [.ref (w.2.2 13), P_z i, .ref (w.2.2 (15 + i.toNat))]) (st' := [.ref (w.2.2 (15 + i.toNat))]) P_i59_25 rfl (show P_aw _ _ _ 26 [.ref (w.2.2 13), P_z i, .ref (w.2.2 (15 + i.toNat))] [.ref (w.2.2 (15 + i.toNat))] _ _ from ?_)
    refine P_aw_brt P_i59_26 rfl (show P_aw _ _ _ 36 [.ref (w.2.2 13), P_z i, .ref (w.2.2 (15 + i.toNat))] [] _ _ from ?_)
    refine P_aw_op (L' := [.ref (w.2.2 13), P_z i, .ref (w.2.2 (15 + i.toNat))]) (st' := [.ref (w.2.2 (15 + i.toNat))]) P_i59_36 rfl (show P_aw _ _ _ 37 [.ref (w.2.2 13), P_z i, .ref (w.2.2 (15 + i.toNat))] [.ref (w.2.2 (15 + i.toNat))] _ _ from ?_)
    refine P_aw_end P_i59_37 rfl rfl (fun _ => rfl) rfl ?_
    show P_aw _ _ _ 18 [.ref (w.2.2 13), P_z t, P_z i, P_un] [.ref (w.2.2 (15 + i.toNat)), .ref (w.2.2 13)] _ _
    have hg2 := A_ok_rg hok1
    have hg3 := A_ok_rg hok1
    have hp4 : 0 ≤ A_lw od y ∧ A_lw od y ≤ 2 := A_low_rg
    refine P_aw_call P_i76_18 rfl rfl (fun _ => rfl) rfl rfl rfl rfl (y2 := 63) (as := [.ref (w.2.2 13), .ref (w.2.2 (15 + i.toNat))]) (r0 := []) (P_inv_v (hw.2.1 13 (by decide)) (hw.s rfl) rfl rfl) (Nat.le_of_ble_eq_true rfl) (by decide) rfl (Nat.le_of_ble_eq_true rfl) (s_low hw hO (hw.c (by omega)) ((hK.2.2 i 0 (by omega) (by omega) (by omega)).trans (hy 0)) ((hK.2.2 i 2 (by omega) (by omega) (by omega)).trans (hy 2)) hok1.1 hok1.2.2.1 ?_)
    show P_aw _ _ _ 21 [.ref (w.2.2 13), P_z t, P_z i, P_un] [P_z (A_lw od y)] _ _
    refine P_aw_op (L' := [.ref (w.2.2 13), P_z t, P_z i, P_z (A_lw od y)]) (st' := []) P_i76_21 rfl (show P_aw _ _ _ 22 [.ref (w.2.2 13), P_z t, P_z i, P_z (A_lw od y)] [] _ _ from ?_)
    refine P_aw_op (L' := [.ref (w.2.2 13), P_z t, P_z i, P_z (A_lw od y)]) (st' := [.ref (w.2.2 13)]) P_i76_22 rfl (show P_aw _ _ _ 23 [.ref (w.2.2 13), P_z t, P_z i, P_z (A_lw od y)] [.ref (w.2.2 13)] _ _ from ?_)
    refine P_aw_op (L' := [.ref (w.2.2 13), P_z t, P_z i, P_z (A_lw od y)]) (st' := [P_z i, .ref (w.2.2 13)]) P_i76_23 rfl (show P_aw _ _ _ 24 [.ref (w.2.2 13), P_z t, P_z i, P_z (A_lw od y)] [P_z i, .ref (w.2.2 13)] _ _ from ?_)
    refine P_aw_call P_i76_24 rfl rfl (fun _ => rfl) rfl rfl rfl rfl (y2 := 59) (as := [.ref (w.2.2 13), P_z i]) (r0 := []) (P_inv_v (hw.2.1 13 (by decide)) (hw.s rfl) rfl rfl) (Nat.le_of_ble_eq_true rfl) (by decide) rfl (Nat.le_of_ble_eq_true rfl) (show P_aw _ _ _ 0 [.ref (w.2.2 13), P_z i, P_un] [] _ _ from ?_)
    refine P_aw_op (L' := [.ref (w.2.2 13), P_z i, P_un]) (st' := [P_z i]) P_i59_0 rfl (show P_aw _ _ _ 1 [.ref (w.2.2 13), P_z i, P_un] [P_z i] _ _ from ?_)
    refine P_aw_izf P_i59_1 ⟨by omega, by omega⟩ (P_ci_ltf (by omega)) (show P_aw _ _ _ 4 [.ref (w.2.2 13), P_z i, P_un] [] _ _ from ?_)
    refine P_aw_op (L' := [.ref (w.2.2 13), P_z i, P_un]) (st' := [P_z i]) P_i59_4 rfl (show P_aw _ _ _ 5 [.ref (w.2.2 13), P_z i, P_un] [P_z i] _ _ from ?_)
    refine P_aw_op (L' := [.ref (w.2.2 13), P_z i, P_un]) (st' := [.ref (w.2.2 13), P_z i]) P_i59_5 rfl (show P_aw _ _ _ 6 [.ref (w.2.2 13), P_z i, P_un] [.ref (w.2.2 13), P_z i] _ _ from ?_)
    refine P_aw_getR P_i59_6 (hw.2.1 13 (by decide)) (hw.s rfl) rfl rfl (show P_aw _ _ _ 9 [.ref (w.2.2 13), P_z i, P_un] [.ref (w.2.2 14), P_z i] _ _ from ?_)
    refine P_aw_clen P_i59_9 (hw.2.1 14 (by decide)) (hw.s rfl) rfl (show P_aw _ _ _ 10 [.ref (w.2.2 13), P_z i, P_un] [P_z 12, P_z i] _ _ from ?_)
    refine P_aw_ict P_i59_10 ⟨by omega, by omega⟩ ⟨by decide, by decide⟩ (P_ci_ltt (by omega)) (show P_aw _ _ _ 18 [.ref (w.2.2 13), P_z i, P_un] [] _ _ from ?_)
    refine P_aw_op (L' := [.ref (w.2.2 13), P_z i, P_un]) (st' := [.ref (w.2.2 13)]) P_i59_18 rfl (show P_aw _ _ _ 19 [.ref (w.2.2 13), P_z i, P_un] [.ref (w.2.2 13)] _ _ from ?_)
    refine P_aw_getR P_i59_19 (hw.2.1 13 (by decide)) (hw.s rfl) rfl rfl (show P_aw _ _ _ 22 [.ref (w.2.2 13), P_z i, P_un] [.ref (w.2.2 14)] _ _ from ?_)
    refine P_aw_op (L' := [.ref (w.2.2 13), P_z i, P_un]) (st' := [P_z i, .ref (w.2.2 14)]) P_i59_22 rfl (show P_aw _ _ _ 23 [.ref (w.2.2 13), P_z i, P_un] [P_z i, .ref (w.2.2 14)] _ _ from ?_)
    refine P_aw_cld P_i59_23 (hw.2.1 14 (by decide)) (hw.s rfl) (by decide) (by omega) (P_c12 (by omega)) (by decide) (show P_aw _ _ _ 24 [.ref (w.2.2 13), P_z i, P_un] [.ref (w.2.2 (15 + i.toNat))] _ _ from ?_)
    refine P_aw_op (L' := [.ref (w.2.2 13), P_z i, .ref (w.2.2 (15 + i.toNat))]) (st' := []) P_i59_24 rfl (show P_aw _ _ _ 25 [.ref (w.2.2 13), P_z i, .ref (w.2.2 (15 + i.toNat))] [] _ _ from ?_)
    refine P_aw_op (L' := [.ref (w.2.2 13), P_z i, .ref (w.2.2 (15 + i.toNat))]) (st' := [.ref (w.2.2 (15 + i.toNat))]) P_i59_25 rfl (show P_aw _ _ _ 26 [.ref (w.2.2 13), P_z i, .ref (w.2.2 (15 + i.toNat))] [.ref (w.2.2 (15 + i.toNat))] _ _ from ?_)
    refine P_aw_brt P_i59_26 rfl (show P_aw _ _ _ 36 [.ref (w.2.2 13), P_z i, .ref (w.2.2 (15 + i.toNat))] [] _ _ from ?_)
    refine P_aw_op (L' := [.ref (w.2.2 13), P_z i, .ref (w.2.2 (15 + i.toNat))]) (st' := [.ref (w.2.2 (15 + i.toNat))]) P_i59_36 rfl (show P_aw _ _ _ 37 [.ref (w.2.2 13), P_z i, .ref (w.2.2 (15 + i.toNat))] [.ref (w.2.2 (15 + i.toNat))] _ _ from ?_)
    refine P_aw_end P_i59_37 rfl rfl (fun _ => rfl) rfl ?_
    show P_aw _ _ _ 27 [.ref (w.2.2 13), P_z t, P_z i, P_z (A_lw od y)] [.ref (w.2.2 (15 + i.toNat))] _ _
    have hg5 := A_ok_rg hok1
    refine P_aw_getv P_i76_27 (hw.c (by omega)).2 (hw.c (by omega)).1 rfl rfl ((hK.2.2 i 3 (by omega) (by omega) (by omega)).trans (hy 3)) (show P_aw _ _ _ 30 [.ref (w.2.2 13), P_z t, P_z i, P_z (A_lw od y)] [P_z (A_cf y 3)] _ _ from ?_)
    refine P_aw_op (L' := [.ref (w.2.2 13), P_z t, P_z i, P_z (A_lw od y)]) (st' := [P_z (A_lw od y), P_z (A_cf y 3)]) P_i76_30 rfl (show P_aw _ _ _ 31 [.ref (w.2.2 13), P_z t, P_z i, P_z (A_lw od y)] [P_z (A_lw od y), P_z (A_cf y 3)] _ _ from ?_)
    rcases Int.lt_or_le (A_lw od y) (A_cf y 3) with hc6 | hc6
    · refine P_aw_icf P_i76_31 ⟨by omega, by omega⟩ ⟨by omega, by omega⟩ (P_ci_lef (by omega)) (show P_aw _ _ _ 34 [.ref (w.2.2 13), P_z t, P_z i, P_z (A_lw od y)] [] _ _ from ?_)
      refine P_aw_op (L' := [.ref (w.2.2 13), P_z t, P_z i, P_z (A_lw od y)]) (st' := [.ref (w.2.2 13)]) P_i76_34 rfl (show P_aw _ _ _ 35 [.ref (w.2.2 13), P_z t, P_z i, P_z (A_lw od y)] [.ref (w.2.2 13)] _ _ from ?_)
      refine P_aw_op (L' := [.ref (w.2.2 13), P_z t, P_z i, P_z (A_lw od y)]) (st' := [P_z i, .ref (w.2.2 13)]) P_i76_35 rfl (show P_aw _ _ _ 36 [.ref (w.2.2 13), P_z t, P_z i, P_z (A_lw od y)] [P_z i, .ref (w.2.2 13)] _ _ from ?_)
      refine P_aw_call P_i76_36 rfl rfl (fun _ => rfl) rfl rfl rfl rfl (y2 := 59) (as := [.ref (w.2.2 13), P_z i]) (r0 := []) (P_inv_v (hw.2.1 13 (by decide)) (hw.s rfl) rfl rfl) (Nat.le_of_ble_eq_true rfl) (by decide) rfl (Nat.le_of_ble_eq_true rfl) (show P_aw _ _ _ 0 [.ref (w.2.2 13), P_z i, P_un] [] _ _ from ?_)
      refine P_aw_op (L' := [.ref (w.2.2 13), P_z i, P_un]) (st' := [P_z i]) P_i59_0 rfl (show P_aw _ _ _ 1 [.ref (w.2.2 13), P_z i, P_un] [P_z i] _ _ from ?_)
      refine P_aw_izf P_i59_1 ⟨by omega, by omega⟩ (P_ci_ltf (by omega)) (show P_aw _ _ _ 4 [.ref (w.2.2 13), P_z i, P_un] [] _ _ from ?_)
      refine P_aw_op (L' := [.ref (w.2.2 13), P_z i, P_un]) (st' := [P_z i]) P_i59_4 rfl (show P_aw _ _ _ 5 [.ref (w.2.2 13), P_z i, P_un] [P_z i] _ _ from ?_)
      refine P_aw_op (L' := [.ref (w.2.2 13), P_z i, P_un]) (st' := [.ref (w.2.2 13), P_z i]) P_i59_5 rfl (show P_aw _ _ _ 6 [.ref (w.2.2 13), P_z i, P_un] [.ref (w.2.2 13), P_z i] _ _ from ?_)
      refine P_aw_getR P_i59_6 (hw.2.1 13 (by decide)) (hw.s rfl) rfl rfl (show P_aw _ _ _ 9 [.ref (w.2.2 13), P_z i, P_un] [.ref (w.2.2 14), P_z i] _ _ from ?_)
      refine P_aw_clen P_i59_9 (hw.2.1 14 (by decide)) (hw.s rfl) rfl (show P_aw _ _ _ 10 [.ref (w.2.2 13), P_z i, P_un] [P_z 12, P_z i] _ _ from ?_)
      refine P_aw_ict P_i59_10 ⟨by omega, by omega⟩ ⟨by decide, by decide⟩ (P_ci_ltt (by omega)) (show P_aw _ _ _ 18 [.ref (w.2.2 13), P_z i, P_un] [] _ _ from ?_)
      refine P_aw_op (L' := [.ref (w.2.2 13), P_z i, P_un]) (st' := [.ref (w.2.2 13)]) P_i59_18 rfl (show P_aw _ _ _ 19 [.ref (w.2.2 13), P_z i, P_un] [.ref (w.2.2 13)] _ _ from ?_)
      refine P_aw_getR P_i59_19 (hw.2.1 13 (by decide)) (hw.s rfl) rfl rfl (show P_aw _ _ _ 22 [.ref (w.2.2 13), P_z i, P_un] [.ref (w.2.2 14)] _ _ from ?_)
      refine P_aw_op (L' := [.ref (w.2.2 13), P_z i, P_un]) (st' := [P_z i, .ref (w.2.2 14)]) P_i59_22 rfl (show P_aw _ _ _ 23 [.ref (w.2.2 13), P_z i, P_un] [P_z i, .ref (w.2.2 14)] _ _ from ?_)
      refine P_aw_cld P_i59_23 (hw.2.1 14 (by decide)) (hw.s rfl) (by decide) (by omega) (P_c12 (by omega)) (by decide) (show P_aw _ _ _ 24 [.ref (w.2.2 13), P_z i, P_un] [.ref (w.2.2 (15 + i.toNat))] _ _ from ?_)
      refine P_aw_op (L' := [.ref (w.2.2 13), P_z i, .ref (w.2.2 (15 + i.toNat))]) (st' := []) P_i59_24 rfl (show P_aw _ _ _ 25 [.ref (w.2.2 13), P_z i, .ref (w.2.2 (15 + i.toNat))] [] _ _ from ?_)
      refine P_aw_op (L' := [.ref (w.2.2 13), P_z i, .ref (w.2.2 (15 + i.toNat))]) (st' := [.ref (w.2.2 (15 + i.toNat))]) P_i59_25 rfl (show P_aw _ _ _ 26 [.ref (w.2.2 13), P_z i, .ref (w.2.2 (15 + i.toNat))] [.ref (w.2.2 (15 + i.toNat))] _ _ from ?_)
      refine P_aw_brt P_i59_26 rfl (show P_aw _ _ _ 36 [.ref (w.2.2 13), P_z i, .ref (w.2.2 (15 + i.toNat))] [] _ _ from ?_)
      refine P_aw_op (L' := [.ref (w.2.2 13), P_z i, .ref (w.2.2 (15 + i.toNat))]) (st' := [.ref (w.2.2 (15 + i.toNat))]) P_i59_36 rfl (show P_aw _ _ _ 37 [.ref (w.2.2 13), P_z i, .ref (w.2.2 (15 + i.toNat))] [.ref (w.2.2 (15 + i.toNat))] _ _ from ?_)
      refine P_aw_end P_i59_37 rfl rfl (fun _ => rfl) rfl ?_
      show P_aw _ _ _ 39 [.ref (w.2.2 13), P_z t, P_z i, P_z (A_lw od y)] [.ref (w.2.2 (15 + i.toNat))] _ _
      refine P_aw_op (L' := [.ref (w.2.2 13), P_z t, P_z i, P_z (A_lw od y)]) (st' := [P_z (A_lw od y), .ref (w.2.2 (15 + i.toNat))]) P_i76_39 rfl (show P_aw _ _ _ 40 [.ref (w.2.2 13), P_z t, P_z i, P_z (A_lw od y)] [P_z (A_lw od y), .ref (w.2.2 (15 + i.toNat))] _ _ from ?_)
      refine P_aw_put P_i76_40 (hw.c (by omega)).2 (hw.c (by omega)).1 rfl rfl rfl (show P_aw _ _ _ 43 [.ref (w.2.2 13), P_z t, P_z i, P_z (A_lw od y)] [] _ _ from ?_)
      refine P_aw_op (L' := [.ref (w.2.2 13), P_z (t + 1), P_z i, P_z (A_lw od y)]) (st' := []) P_i76_43 (P_o_iinc rfl) (show P_aw _ _ _ 46 [.ref (w.2.2 13), P_z (t + 1), P_z i, P_z (A_lw od y)] [] _ _ from ?_)
      refine P_aw_op (L' := [.ref (w.2.2 13), P_z (t + 1), P_z (i + 1), P_z (A_lw od y)]) (st' := []) P_i76_46 (P_o_iinc rfl) (show P_aw _ _ _ 49 [.ref (w.2.2 13), P_z (t + 1), P_z (i + 1), P_z (A_lw od y)] [] _ _ from ?_)
      refine P_aw_goto P_i76_49 (show P_aw _ _ _ 4 [.ref (w.2.2 13), P_z (t + 1), P_z (i + 1), P_un] [] _ _ from ?_)
      have e : A_down od y = A_lvl y (A_lw od y) := (by unfold A_down; rw [if_pos (by omega)]); have hi2 : i.toNat = A.length := (by omega); rw [hi2]; have hK2 := A_KL_set (v := (A_lw od y)) hK; exact ih _ (A ++ [A_lvl y (A_lw od y)]) B (t + 1) (i + 1) (by rw [hi]; simp) hlB (by omega) (A_O_cg (fun b => P_u2_ne (by omega)) hO) (by rw [← A_app]; exact hK2) (fun z hz => hok z (List.mem_cons_of_mem _ hz)) (fun σ' h1 h2 => P_qz (by simp only [A_nd, List.filter_cons]; rw [decide_eq_true (show A_lw od y < A_cf y 3 by omega)]; simp [A_nd]; omega) rfl (q σ' (A_kp_tr (A_kp_c (by omega)) h1) (by rw [List.map_cons, e, A_app]; exact h2)))
    · refine P_aw_ict P_i76_31 ⟨by omega, by omega⟩ ⟨by omega, by omega⟩ (P_ci_let (by omega)) (show P_aw _ _ _ 46 [.ref (w.2.2 13), P_z t, P_z i, P_z (A_lw od y)] [] _ _ from ?_)
      refine P_aw_op (L' := [.ref (w.2.2 13), P_z t, P_z (i + 1), P_z (A_lw od y)]) (st' := []) P_i76_46 (P_o_iinc rfl) (show P_aw _ _ _ 49 [.ref (w.2.2 13), P_z t, P_z (i + 1), P_z (A_lw od y)] [] _ _ from ?_)
      refine P_aw_goto P_i76_49 (show P_aw _ _ _ 4 [.ref (w.2.2 13), P_z t, P_z (i + 1), P_un] [] _ _ from ?_)
      have e : A_down od y = y := (by unfold A_down; rw [if_neg (by omega)]); exact ih σ (A ++ [y]) B t (i + 1) (by rw [hi]; simp) hlB (by omega) hO (by rw [← A_app]; exact hK) (fun z hz => hok z (List.mem_cons_of_mem _ hz)) (fun σ' h1 h2 => P_qz (by simp only [A_nd, List.filter_cons]; rw [decide_eq_false (show ¬ A_lw od y < A_cf y 3 by omega)]; simp [A_nd]) rfl (q σ' h1 (by rw [List.map_cons, e, A_app]; exact h2)))

theorem s_exl {w : P_Lw} (hw : P_Cw w) {d : Nat} {Q : P_R → P_A → Prop} {ns : Int} {od : Int → Int} : ∀ (n : Nat) (σ : P_A) (A B : List A_cd) (i : Int), i = ((A.length : Nat) : Int) → B.length = n → A_O σ ns od → A_KL σ (A ++ B) → A_oks ns B → (∀ σ', A_kp σ σ' → A_KL σ' (A ++ B.map (A_up od)) → Q (.inl none) σ') → P_aw w (d + 4) 79 31 [.ref (w.2.2 13), P_un, P_un, P_un, P_z i] [] σ Q := by
  intro n
  induction n with
  | zero =>
    intro σ A B i hi hB hO hK hok q
    obtain rfl : B = [] := List.length_eq_zero_iff.mp hB
    have hl : ((A ++ []).length : Int) = (A.length : Int) := by simp
    have hz := hK.2.1
    refine P_aw_op (L' := [.ref (w.2.2 13), P_un, P_un, P_un, P_z i]) (st' := [P_z i]) P_i79_31 rfl (show P_aw _ _ _ 33 [.ref (w.2.2 13), P_un, P_un, P_un, P_z i] [P_z i] _ _ from ?_)
    refine P_aw_op (L' := [.ref (w.2.2 13), P_un, P_un, P_un, P_z i]) (st' := [.ref (w.2.2 13), P_z i]) P_i79_33 rfl (show P_aw _ _ _ 34 [.ref (w.2.2 13), P_un, P_un, P_un, P_z i] [.ref (w.2.2 13), P_z i] _ _ from ?_)
    have hg1 := hK.2.1
    refine P_aw_getv P_i79_34 (hw.2.1 13 (by decide)) (hw.s rfl) rfl rfl (hK.1) (show P_aw _ _ _ 37 [.ref (w.2.2 13), P_un, P_un, P_un, P_z i] [P_z ((A ++ []).length : Int), P_z i] _ _ from ?_)
    refine P_aw_ict P_i79_37 ⟨by omega, by omega⟩ ⟨by omega, by omega⟩ (P_ci_get (by omega)) (show P_aw _ _ _ 77 [.ref (w.2.2 13), P_un, P_un, P_un, P_z i] [] _ _ from ?_)
    refine P_aw_end P_i79_77 rfl rfl (fun _ => rfl) rfl ?_
    exact q σ A_kp_rf hK
  | succ n ih =>
    intro σ A B i hi hB hO hK hok q
    obtain ⟨y, B, rfl⟩ : ∃ x B', B = x :: B' := by
      cases B with
      | nil => exact absurd hB (by simp)
      | cons x B => exact ⟨x, B, rfl⟩
    have hlB : B.length = n := Nat.succ.inj hB
    have hl := A_len (A := A) (y := y) (B := B)
    have hy := A_lc_mid (A := A) (B := B) (y := y) hi
    have hok1 : A_ok ns y := hok y List.mem_cons_self
    have hokr := A_ok_rg hok1
    have hz := hK.2.1
    refine P_aw_op (L' := [.ref (w.2.2 13), P_un, P_un, P_un, P_z i]) (st' := [P_z i]) P_i79_31 rfl (show P_aw _ _ _ 33 [.ref (w.2.2 13), P_un, P_un, P_un, P_z i] [P_z i] _ _ from ?_)
    refine P_aw_op (L' := [.ref (w.2.2 13), P_un, P_un, P_un, P_z i]) (st' := [.ref (w.2.2 13), P_z i]) P_i79_33 rfl (show P_aw _ _ _ 34 [.ref (w.2.2 13), P_un, P_un, P_un, P_z i] [.ref (w.2.2 13), P_z i] _ _ from ?_)
    have hg1 := hK.2.1
    refine P_aw_getv P_i79_34 (hw.2.1 13 (by decide)) (hw.s rfl) rfl rfl (hK.1) (show P_aw _ _ _ 37 [.ref (w.2.2 13), P_un, P_un, P_un, P_z i] [P_z ((A ++ y :: B).length : Int), P_z i] _ _ from ?_)
    refine P_aw_icf P_i79_37 ⟨by omega, by omega⟩ ⟨by omega, by omega⟩ (P_ci_gef (by omega)) (show P_aw _ _ _ 40 [.ref (w.2.2 13), P_un, P_un, P_un, P_z i] [] _ _ from ?_)
    refine P_aw_op (L' := [.ref (w.2.2 13), P_un, P_un, P_un, P_z i]) (st' := [.ref (w.2.2 13)]) P_i79_40 rfl (show P_aw _ _ _ 41 [.ref (w.2.2 13), P_un, P_un, P_un, P_z i] [.ref (w.2.2 13)] _ _ from ?_)
    refine P_aw_op (L' := [.ref (w.2.2 13), P_un, P_un, P_un, P_z i]) (st' := [P_z i, .ref (w.2.2 13)]) P_i79_41 rfl (show P_aw _ _ _ 43 [.ref (w.2.2 13), P_un, P_un, P_un, P_z i] [P_z i, .ref (w.2.2 13)] _ _ from ?_)
    refine P_aw_call P_i79_43 rfl rfl (fun _ => rfl) rfl rfl rfl rfl (y2 := 59) (as := [.ref (w.2.2 13), P_z i]) (r0 := []) (P_inv_v (hw.2.1 13 (by decide)) (hw.s rfl) rfl rfl) (Nat.le_of_ble_eq_true rfl) (by decide) rfl (Nat.le_of_ble_eq_true rfl) (show P_aw _ _ _ 0 [.ref (w.2.2 13), P_z i, P_un] [] _ _ from ?_)
    refine P_aw_op (L' := [.ref (w.2.2 13), P_z i, P_un]) (st' := [P_z i]) P_i59_0 rfl (show P_aw _ _ _ 1 [.ref (w.2.2 13), P_z i, P_un] [P_z i] _ _ from ?_)
    refine P_aw_izf P_i59_1 ⟨by omega, by omega⟩ (P_ci_ltf (by omega)) (show P_aw _ _ _ 4 [.ref (w.2.2 13), P_z i, P_un] [] _ _ from ?_)
    refine P_aw_op (L' := [.ref (w.2.2 13), P_z i, P_un]) (st' := [P_z i]) P_i59_4 rfl (show P_aw _ _ _ 5 [.ref (w.2.2 13), P_z i, P_un] [P_z i] _ _ from ?_)
    refine P_aw_op (L' := [.ref (w.2.2 13), P_z i, P_un]) (st' := [.ref (w.2.2 13), P_z i]) P_i59_5 rfl (show P_aw _ _ _ 6 [.ref (w.2.2 13), P_z i, P_un] [.ref (w.2.2 13), P_z i] _ _ from ?_)
    refine P_aw_getR P_i59_6 (hw.2.1 13 (by decide)) (hw.s rfl) rfl rfl (show P_aw _ _ _ 9 [.ref (w.2.2 13), P_z i, P_un] [.ref (w.2.2 14), P_z i] _ _ from ?_)
    refine P_aw_clen P_i59_9 (hw.2.1 14 (by decide)) (hw.s rfl) rfl (show P_aw _ _ _ 10 [.ref (w.2.2 13), P_z i, P_un] [P_z 12, P_z i] _ _ from ?_)
    refine P_aw_ict P_i59_10 ⟨by omega, by omega⟩ ⟨by decide, by decide⟩ (P_ci_ltt (by omega)) (show P_aw _ _ _ 18 [.ref (w.2.2 13), P_z i, P_un] [] _ _ from ?_)
    refine P_aw_op (L' := [.ref (w.2.2 13), P_z i, P_un]) (st' := [.ref (w.2.2 13)]) P_i59_18 rfl (show P_aw _ _ _ 19 [.ref (w.2.2 13), P_z i, P_un] [.ref (w.2.2 13)] _ _ from ?_)
    refine P_aw_getR P_i59_19 (hw.2.1 13 (by decide)) (hw.s rfl) rfl rfl (show P_aw _ _ _ 22 [.ref (w.2.2 13), P_z i, P_un] [.ref (w.2.2 14)] _ _ from ?_)
    refine P_aw_op (L' := [.ref (w.2.2 13), P_z i, P_un]) (st' := [P_z i, .ref (w.2.2 14)]) P_i59_22 rfl (show P_aw _ _ _ 23 [.ref (w.2.2 13), P_z i, P_un] [P_z i, .ref (w.2.2 14)] _ _ from ?_)
    refine P_aw_cld P_i59_23 (hw.2.1 14 (by decide)) (hw.s rfl) (by decide) (by omega) (P_c12 (by omega)) (by decide) (show P_aw _ _ _ 24 [.ref (w.2.2 13), P_z i, P_un] [.ref (w.2.2 (15 + i.toNat))] _ _ from ?_)
    refine P_aw_op (L' := [.ref (w.2.2 13), P_z i, .ref (w.2.2 (15 + i.toNat))]) (st' := []) P_i59_24 rfl (show P_aw _ _ _ 25 [.ref (w.2.2 13), P_z i, .ref (w.2.2 (15 + i.toNat))] [] _ _ from ?_)
    refine P_aw_op (L' := [.ref (w.2.2 13), P_z i, .ref (w.2.2 (15 + i.toNat))]) (st' := [.ref (w.2.2 (15 + i.toNat))]) P_i59_25 rfl (show P_aw _ _ _ 26 [.ref (w.2.2 13), P_z i, .ref (w.2.2 (15 + i.toNat))] [.ref (w.2.2 (15 + i.toNat))] _ _ from ?_)
    refine P_aw_brt P_i59_26 rfl (show P_aw _ _ _ 36 [.ref (w.2.2 13), P_z i, .ref (w.2.2 (15 + i.toNat))] [] _ _ from ?_)
    refine P_aw_op (L' := [.ref (w.2.2 13), P_z i, .ref (w.2.2 (15 + i.toNat))]) (st' := [.ref (w.2.2 (15 + i.toNat))]) P_i59_36 rfl (show P_aw _ _ _ 37 [.ref (w.2.2 13), P_z i, .ref (w.2.2 (15 + i.toNat))] [.ref (w.2.2 (15 + i.toNat))] _ _ from ?_)
    refine P_aw_end P_i59_37 rfl rfl (fun _ => rfl) rfl ?_
    show P_aw _ _ _ 46 [.ref (w.2.2 13), P_un, P_un, P_un, P_z i] [.ref (w.2.2 (15 + i.toNat))] _ _
    refine P_aw_op (L' := [.ref (w.2.2 13), P_un, P_un, P_un, P_z i]) (st' := [.ref (w.2.2 13), .ref (w.2.2 (15 + i.toNat))]) P_i79_46 rfl (show P_aw _ _ _ 47 [.ref (w.2.2 13), P_un, P_un, P_un, P_z i] [.ref (w.2.2 13), .ref (w.2.2 (15 + i.toNat))] _ _ from ?_)
    refine P_aw_op (L' := [.ref (w.2.2 13), P_un, P_un, P_un, P_z i]) (st' := [P_z i, .ref (w.2.2 13), .ref (w.2.2 (15 + i.toNat))]) P_i79_47 rfl (show P_aw _ _ _ 49 [.ref (w.2.2 13), P_un, P_un, P_un, P_z i] [P_z i, .ref (w.2.2 13), .ref (w.2.2 (15 + i.toNat))] _ _ from ?_)
    refine P_aw_call P_i79_49 rfl rfl (fun _ => rfl) rfl rfl rfl rfl (y2 := 59) (as := [.ref (w.2.2 13), P_z i]) (r0 := [.ref (w.2.2 (15 + i.toNat))]) (P_inv_v (hw.2.1 13 (by decide)) (hw.s rfl) rfl rfl) (Nat.le_of_ble_eq_true rfl) (by decide) rfl (Nat.le_of_ble_eq_true rfl) (show P_aw _ _ _ 0 [.ref (w.2.2 13), P_z i, P_un] [] _ _ from ?_)
    refine P_aw_op (L' := [.ref (w.2.2 13), P_z i, P_un]) (st' := [P_z i]) P_i59_0 rfl (show P_aw _ _ _ 1 [.ref (w.2.2 13), P_z i, P_un] [P_z i] _ _ from ?_)
    refine P_aw_izf P_i59_1 ⟨by omega, by omega⟩ (P_ci_ltf (by omega)) (show P_aw _ _ _ 4 [.ref (w.2.2 13), P_z i, P_un] [] _ _ from ?_)
    refine P_aw_op (L' := [.ref (w.2.2 13), P_z i, P_un]) (st' := [P_z i]) P_i59_4 rfl (show P_aw _ _ _ 5 [.ref (w.2.2 13), P_z i, P_un] [P_z i] _ _ from ?_)
    refine P_aw_op (L' := [.ref (w.2.2 13), P_z i, P_un]) (st' := [.ref (w.2.2 13), P_z i]) P_i59_5 rfl (show P_aw _ _ _ 6 [.ref (w.2.2 13), P_z i, P_un] [.ref (w.2.2 13), P_z i] _ _ from ?_)
    refine P_aw_getR P_i59_6 (hw.2.1 13 (by decide)) (hw.s rfl) rfl rfl (show P_aw _ _ _ 9 [.ref (w.2.2 13), P_z i, P_un] [.ref (w.2.2 14), P_z i] _ _ from ?_)
    refine P_aw_clen P_i59_9 (hw.2.1 14 (by decide)) (hw.s rfl) rfl (show P_aw _ _ _ 10 [.ref (w.2.2 13), P_z i, P_un] [P_z 12, P_z i] _ _ from ?_)
    refine P_aw_ict P_i59_10 ⟨by omega, by omega⟩ ⟨by decide, by decide⟩ (P_ci_ltt (by omega)) (show P_aw _ _ _ 18 [.ref (w.2.2 13), P_z i, P_un] [] _ _ from ?_)
    refine P_aw_op (L' := [.ref (w.2.2 13), P_z i, P_un]) (st' := [.ref (w.2.2 13)]) P_i59_18 rfl (show P_aw _ _ _ 19 [.ref (w.2.2 13), P_z i, P_un] [.ref (w.2.2 13)] _ _ from ?_)
    refine P_aw_getR P_i59_19 (hw.2.1 13 (by decide)) (hw.s rfl) rfl rfl (show P_aw _ _ _ 22 [.ref (w.2.2 13), P_z i, P_un] [.ref (w.2.2 14)] _ _ from ?_)
    refine P_aw_op (L' := [.ref (w.2.2 13), P_z i, P_un]) (st' := [P_z i, .ref (w.2.2 14)]) P_i59_22 rfl (show P_aw _ _ _ 23 [.ref (w.2.2 13), P_z i, P_un] [P_z i, .ref (w.2.2 14)] _ _ from ?_)
    refine P_aw_cld P_i59_23 (hw.2.1 14 (by decide)) (hw.s rfl) (by decide) (by omega) (P_c12 (by omega)) (by decide) (show P_aw _ _ _ 24 [.ref (w.2.2 13), P_z i, P_un] [.ref (w.2.2 (15 + i.toNat))] _ _ from ?_)
    refine P_aw_op (L' := [.ref (w.2.2 13), P_z i, .ref (w.2.2 (15 + i.toNat))]) (st' := []) P_i59_24 rfl (show P_aw _ _ _ 25 [.ref (w.2.2 13), P_z i, .ref (w.2.2 (15 + i.toNat))] [] _ _ from ?_)
    refine P_aw_op (L' := [.ref (w.2.2 13), P_z i, .ref (w.2.2 (15 + i.toNat))]) (st' := [.ref (w.2.2 (15 + i.toNat))]) P_i59_25 rfl (show P_aw _ _ _ 26 [.ref (w.2.2 13), P_z i, .ref (w.2.2 (15 + i.toNat))] [.ref (w.2.2 (15 + i.toNat))] _ _ from ?_)
    refine P_aw_brt P_i59_26 rfl (show P_aw _ _ _ 36 [.ref (w.2.2 13), P_z i, .ref (w.2.2 (15 + i.toNat))] [] _ _ from ?_)
    refine P_aw_op (L' := [.ref (w.2.2 13), P_z i, .ref (w.2.2 (15 + i.toNat))]) (st' := [.ref (w.2.2 (15 + i.toNat))]) P_i59_36 rfl (show P_aw _ _ _ 37 [.ref (w.2.2 13), P_z i, .ref (w.2.2 (15 + i.toNat))] [.ref (w.2.2 (15 + i.toNat))] _ _ from ?_)
    refine P_aw_end P_i59_37 rfl rfl (fun _ => rfl) rfl ?_
    show P_aw _ _ _ 52 [.ref (w.2.2 13), P_un, P_un, P_un, P_z i] [.ref (w.2.2 (15 + i.toNat)), .ref (w.2.2 (15 + i.toNat))] _ _
    have hg2 := A_ok_rg hok1
    refine P_aw_getv P_i79_52 (hw.c (by omega)).2 (hw.c (by omega)).1 rfl rfl ((hK.2.2 i 3 (by omega) (by omega) (by omega)).trans (hy 3)) (show P_aw _ _ _ 55 [.ref (w.2.2 13), P_un, P_un, P_un, P_z i] [P_z (A_cf y 3), .ref (w.2.2 (15 + i.toNat))] _ _ from ?_)
    refine P_aw_op (L' := [.ref (w.2.2 13), P_un, P_un, P_un, P_z i]) (st' := [.ref (w.2.2 13), P_z (A_cf y 3), .ref (w.2.2 (15 + i.toNat))]) P_i79_55 rfl (show P_aw _ _ _ 56 [.ref (w.2.2 13), P_un, P_un, P_un, P_z i] [.ref (w.2.2 13), P_z (A_cf y 3), .ref (w.2.2 (15 + i.toNat))] _ _ from ?_)
    refine P_aw_op (L' := [.ref (w.2.2 13), P_un, P_un, P_un, P_z i]) (st' := [.ref (w.2.2 13), .ref (w.2.2 13), P_z (A_cf y 3), .ref (w.2.2 (15 + i.toNat))]) P_i79_56 rfl (show P_aw _ _ _ 57 [.ref (w.2.2 13), P_un, P_un, P_un, P_z i] [.ref (w.2.2 13), .ref (w.2.2 13), P_z (A_cf y 3), .ref (w.2.2 (15 + i.toNat))] _ _ from ?_)
    refine P_aw_op (L' := [.ref (w.2.2 13), P_un, P_un, P_un, P_z i]) (st' := [P_z i, .ref (w.2.2 13), .ref (w.2.2 13), P_z (A_cf y 3), .ref (w.2.2 (15 + i.toNat))]) P_i79_57 rfl (show P_aw _ _ _ 59 [.ref (w.2.2 13), P_un, P_un, P_un, P_z i] [P_z i, .ref (w.2.2 13), .ref (w.2.2 13), P_z (A_cf y 3), .ref (w.2.2 (15 + i.toNat))] _ _ from ?_)
    refine P_aw_call P_i79_59 rfl rfl (fun _ => rfl) rfl rfl rfl rfl (y2 := 59) (as := [.ref (w.2.2 13), P_z i]) (r0 := [.ref (w.2.2 13), P_z (A_cf y 3), .ref (w.2.2 (15 + i.toNat))]) (P_inv_v (hw.2.1 13 (by decide)) (hw.s rfl) rfl rfl) (Nat.le_of_ble_eq_true rfl) (by decide) rfl (Nat.le_of_ble_eq_true rfl) (show P_aw _ _ _ 0 [.ref (w.2.2 13), P_z i, P_un] [] _ _ from ?_)
    refine P_aw_op (L' := [.ref (w.2.2 13), P_z i, P_un]) (st' := [P_z i]) P_i59_0 rfl (show P_aw _ _ _ 1 [.ref (w.2.2 13), P_z i, P_un] [P_z i] _ _ from ?_)
    refine P_aw_izf P_i59_1 ⟨by omega, by omega⟩ (P_ci_ltf (by omega)) (show P_aw _ _ _ 4 [.ref (w.2.2 13), P_z i, P_un] [] _ _ from ?_)
    refine P_aw_op (L' := [.ref (w.2.2 13), P_z i, P_un]) (st' := [P_z i]) P_i59_4 rfl (show P_aw _ _ _ 5 [.ref (w.2.2 13), P_z i, P_un] [P_z i] _ _ from ?_)
    refine P_aw_op (L' := [.ref (w.2.2 13), P_z i, P_un]) (st' := [.ref (w.2.2 13), P_z i]) P_i59_5 rfl (show P_aw _ _ _ 6 [.ref (w.2.2 13), P_z i, P_un] [.ref (w.2.2 13), P_z i] _ _ from ?_)
    refine P_aw_getR P_i59_6 (hw.2.1 13 (by decide)) (hw.s rfl) rfl rfl (show P_aw _ _ _ 9 [.ref (w.2.2 13), P_z i, P_un] [.ref (w.2.2 14), P_z i] _ _ from ?_)
    refine P_aw_clen P_i59_9 (hw.2.1 14 (by decide)) (hw.s rfl) rfl (show P_aw _ _ _ 10 [.ref (w.2.2 13), P_z i, P_un] [P_z 12, P_z i] _ _ from ?_)
    refine P_aw_ict P_i59_10 ⟨by omega, by omega⟩ ⟨by decide, by decide⟩ (P_ci_ltt (by omega)) (show P_aw _ _ _ 18 [.ref (w.2.2 13), P_z i, P_un] [] _ _ from ?_)
    refine P_aw_op (L' := [.ref (w.2.2 13), P_z i, P_un]) (st' := [.ref (w.2.2 13)]) P_i59_18 rfl (show P_aw _ _ _ 19 [.ref (w.2.2 13), P_z i, P_un] [.ref (w.2.2 13)] _ _ from ?_)
    refine P_aw_getR P_i59_19 (hw.2.1 13 (by decide)) (hw.s rfl) rfl rfl (show P_aw _ _ _ 22 [.ref (w.2.2 13), P_z i, P_un] [.ref (w.2.2 14)] _ _ from ?_)
    refine P_aw_op (L' := [.ref (w.2.2 13), P_z i, P_un]) (st' := [P_z i, .ref (w.2.2 14)]) P_i59_22 rfl (show P_aw _ _ _ 23 [.ref (w.2.2 13), P_z i, P_un] [P_z i, .ref (w.2.2 14)] _ _ from ?_)
    refine P_aw_cld P_i59_23 (hw.2.1 14 (by decide)) (hw.s rfl) (by decide) (by omega) (P_c12 (by omega)) (by decide) (show P_aw _ _ _ 24 [.ref (w.2.2 13), P_z i, P_un] [.ref (w.2.2 (15 + i.toNat))] _ _ from ?_)
    refine P_aw_op (L' := [.ref (w.2.2 13), P_z i, .ref (w.2.2 (15 + i.toNat))]) (st' := []) P_i59_24 rfl (show P_aw _ _ _ 25 [.ref (w.2.2 13), P_z i, .ref (w.2.2 (15 + i.toNat))] [] _ _ from ?_)
    refine P_aw_op (L' := [.ref (w.2.2 13), P_z i, .ref (w.2.2 (15 + i.toNat))]) (st' := [.ref (w.2.2 (15 + i.toNat))]) P_i59_25 rfl (show P_aw _ _ _ 26 [.ref (w.2.2 13), P_z i, .ref (w.2.2 (15 + i.toNat))] [.ref (w.2.2 (15 + i.toNat))] _ _ from ?_)
    refine P_aw_brt P_i59_26 rfl (show P_aw _ _ _ 36 [.ref (w.2.2 13), P_z i, .ref (w.2.2 (15 + i.toNat))] [] _ _ from ?_)
    refine P_aw_op (L' := [.ref (w.2.2 13), P_z i, .ref (w.2.2 (15 + i.toNat))]) (st' := [.ref (w.2.2 (15 + i.toNat))]) P_i59_36 rfl (show P_aw _ _ _ 37 [.ref (w.2.2 13), P_z i, .ref (w.2.2 (15 + i.toNat))] [.ref (w.2.2 (15 + i.toNat))] _ _ from ?_)
    refine P_aw_end P_i59_37 rfl rfl (fun _ => rfl) rfl ?_
    show P_aw _ _ _ 62 [.ref (w.2.2 13), P_un, P_un, P_un, P_z i] [.ref (w.2.2 (15 + i.toNat)), .ref (w.2.2 13), P_z (A_cf y 3), .ref (w.2.2 (15 + i.toNat))] _ _
    have hg3 := A_ok_rg hok1
    have hg4 := A_ok_rg hok1
    have hp5 : 0 ≤ A_lw od y ∧ A_lw od y ≤ 2 := A_low_rg
    refine P_aw_call P_i79_62 rfl rfl (fun _ => rfl) rfl rfl rfl rfl (y2 := 63) (as := [.ref (w.2.2 13), .ref (w.2.2 (15 + i.toNat))]) (r0 := [P_z (A_cf y 3), .ref (w.2.2 (15 + i.toNat))]) (P_inv_v (hw.2.1 13 (by decide)) (hw.s rfl) rfl rfl) (Nat.le_of_ble_eq_true rfl) (by decide) rfl (Nat.le_of_ble_eq_true rfl) (s_low hw hO (hw.c (by omega)) ((hK.2.2 i 0 (by omega) (by omega) (by omega)).trans (hy 0)) ((hK.2.2 i 2 (by omega) (by omega) (by omega)).trans (hy 2)) hok1.1 hok1.2.2.1 ?_)
    show P_aw _ _ _ 65 [.ref (w.2.2 13), P_un, P_un, P_un, P_z i] [P_z (A_lw od y), P_z (A_cf y 3), .ref (w.2.2 (15 + i.toNat))] _ _
    refine P_aw_jdk P_i79_65 rfl rfl (fun _ => rfl) rfl (P_jdk_max ⟨by omega, by omega⟩ ⟨by omega, by omega⟩ (Nat.le_of_ble_eq_true rfl)) (show P_aw _ _ _ 68 [.ref (w.2.2 13), P_un, P_un, P_un, P_z i] [P_z (max (A_cf y 3) (A_lw od y)), .ref (w.2.2 (15 + i.toNat))] _ _ from ?_)
    refine P_aw_put P_i79_68 (hw.c (by omega)).2 (hw.c (by omega)).1 rfl rfl rfl (show P_aw _ _ _ 71 [.ref (w.2.2 13), P_un, P_un, P_un, P_z i] [] _ _ from ?_)
    refine P_aw_op (L' := [.ref (w.2.2 13), P_un, P_un, P_un, P_z (i + 1)]) (st' := []) P_i79_71 (P_o_iinc rfl) (show P_aw _ _ _ 74 [.ref (w.2.2 13), P_un, P_un, P_un, P_z (i + 1)] [] _ _ from ?_)
    refine P_aw_goto P_i79_74 (show P_aw _ _ _ 31 [.ref (w.2.2 13), P_un, P_un, P_un, P_z (i + 1)] [] _ _ from ?_)
    have e : A_up od y = A_lvl y (max (A_cf y 3) (A_lw od y)) := rfl; have hi2 : i.toNat = A.length := (by omega); rw [hi2]; have hK2 := A_KL_set (v := (max (A_cf y 3) (A_lw od y))) hK; exact ih _ (A ++ [A_lvl y (max (A_cf y 3) (A_lw od y))]) B (i + 1) (by rw [hi]; simp) hlB (A_O_cg (fun b => P_u2_ne (by omega)) hO) (by rw [← A_app]; exact hK2) (fun z hz => hok z (List.mem_cons_of_mem _ hz)) (fun σ' h1 h2 => (q σ' (A_kp_tr (A_kp_c (by omega)) h1) (by rw [List.map_cons, e, A_app]; exact h2)))

theorem s_bd {w : P_Lw} (hw : P_Cw w) {d : Nat} {Q : P_R → P_A → Prop} {σ : P_A} {ns : Int} {od : Int → Int} {cs : List A_cd} (hO : A_O σ ns od) (hK : A_KL σ cs) (hok : A_oks ns cs) (q : ∀ σ', A_kp σ σ' → A_KL σ' (cs.map (A_down od)) → Q (.inl (some (P_z (A_nd od cs)))) σ') : P_aw w (d + 4) 76 0 [.ref (w.2.2 13), P_un, P_un, P_un] [] σ Q := by
  have hz := hK.2.1
  refine P_aw_op (L' := [.ref (w.2.2 13), P_un, P_un, P_un]) (st' := [P_z 0]) P_i76_0 rfl (show P_aw _ _ _ 1 [.ref (w.2.2 13), P_un, P_un, P_un] [P_z 0] _ _ from ?_)
  refine P_aw_op (L' := [.ref (w.2.2 13), P_z 0, P_un, P_un]) (st' := []) P_i76_1 rfl (show P_aw _ _ _ 2 [.ref (w.2.2 13), P_z 0, P_un, P_un] [] _ _ from ?_)
  refine P_aw_op (L' := [.ref (w.2.2 13), P_z 0, P_un, P_un]) (st' := [P_z 0]) P_i76_2 rfl (show P_aw _ _ _ 3 [.ref (w.2.2 13), P_z 0, P_un, P_un] [P_z 0] _ _ from ?_)
  refine P_aw_op (L' := [.ref (w.2.2 13), P_z 0, P_z 0, P_un]) (st' := []) P_i76_3 rfl (show P_aw _ _ _ 4 [.ref (w.2.2 13), P_z 0, P_z 0, P_un] [] _ _ from ?_)
  exact s_bdl hw cs.length σ [] cs 0 0 rfl rfl (by omega) hO hK hok (fun σ' h1 h2 => P_qz (by omega) rfl (q σ' h1 h2))

/-- two places of an order changed -/
def A_xch (od : Int → Int) (a b : Int) (j : Int) : Int := if j = b then od a else if j = a then od b else od j
theorem A_O_x {σ : P_A} {ns : Int} {od : Int → Int} {a b : Int} (hO : A_O σ ns od) (ha : 0 ≤ a ∧ a < ns) (hb : 0 ≤ b ∧ b < ns) (hn : ns ≤ 3) : A_O (P_u2 (P_u2 σ 28 a.toNat (od b)) 28 b.toNat (od a)) ns (A_xch od a b) := by
  intro j h0 h1
  have hA := (hO a (by omega) (by omega)).2
  have hB := (hO b (by omega) (by omega)).2
  have hJ := hO j h0 h1
  unfold A_xch
  by_cases e : j = b
  · subst e
    rw [if_pos rfl, P_u2_at]
    exact ⟨rfl, hA.1, hA.2.1, fun _ => hA.2.2 ha.2⟩
  · rw [if_neg e, P_u2_ne (by omega)]
    by_cases e2 : j = a
    · subst e2
      rw [if_pos rfl, P_u2_at]
      exact ⟨rfl, hB.1, hB.2.1, fun _ => hB.2.2 hb.2⟩
    · rw [if_neg e2, P_u2_ne (by omega)]
      exact hJ
theorem A_KL_cg {σ σ' : P_A} {cs : List A_cd} (h4 : σ' 13 4 = σ 13 4) (h : ∀ a b, 15 ≤ a → a < 27 → σ' a b = σ a b) (hK : A_KL σ cs) : A_KL σ' cs := by
  have hz := hK.2.1
  exact ⟨h4.trans hK.1, hK.2.1, fun j f a0 a1 a2 => (h _ _ (by omega) (by omega)).trans (hK.2.2 j f a0 a1 a2)⟩
theorem s_ex {w : P_Lw} (hw : P_Cw w) {d : Nat} {Q : P_R → P_A → Prop} {σ : P_A} {ns a b : Int} {od : Int → Int} {cs : List A_cd} (hn : 1 ≤ ns ∧ ns ≤ 3) (ha : 0 ≤ a ∧ a < ns) (hb : 0 ≤ b ∧ b < ns) (hO : A_O σ ns od) (hK : A_KL σ cs) (hok : A_oks ns cs) (q : ∀ σ', (∀ c f, ¬ (c = 13 ∧ f = 4) → ¬ (15 ≤ c ∧ c < 27) → c ≠ 28 → σ' c f = σ c f) → A_O σ' ns (A_xch od a b) → A_KL σ' (cs.map (A_up (A_xch od a b))) → Q (.inl none) σ') : P_aw w (d + 4) 79 0 [.ref (w.2.2 13), P_z a, P_z b, P_un, P_un] [] σ Q := by
  have hK2 : ∀ σ', (∀ c f, c ≠ 28 → σ' c f = σ c f) → A_KL σ' cs := fun σ' h => A_KL_cg (h 13 4 (by omega)) (fun c f h1 h2 => h c f (by omega)) hK
  refine P_aw_op (L' := [.ref (w.2.2 13), P_z a, P_z b, P_un, P_un]) (st' := [.ref (w.2.2 13)]) P_i79_0 rfl (show P_aw _ _ _ 1 [.ref (w.2.2 13), P_z a, P_z b, P_un, P_un] [.ref (w.2.2 13)] _ _ from ?_)
  refine P_aw_op (L' := [.ref (w.2.2 13), P_z a, P_z b, P_un, P_un]) (st' := [P_z a, .ref (w.2.2 13)]) P_i79_1 rfl (show P_aw _ _ _ 2 [.ref (w.2.2 13), P_z a, P_z b, P_un, P_un] [P_z a, .ref (w.2.2 13)] _ _ from ?_)
  refine P_aw_call P_i79_2 rfl rfl (fun _ => rfl) rfl rfl rfl rfl (y2 := 58) (as := [.ref (w.2.2 13), P_z a]) (r0 := []) (P_inv_v (hw.2.1 13 (by decide)) (hw.s rfl) rfl rfl) (Nat.le_of_ble_eq_true rfl) (by decide) rfl (Nat.le_of_ble_eq_true rfl) (show P_aw _ _ _ 0 [.ref (w.2.2 13), P_z a] [] _ _ from ?_)
  refine P_aw_op (L' := [.ref (w.2.2 13), P_z a]) (st' := [.ref (w.2.2 13)]) P_i58_0 rfl (show P_aw _ _ _ 1 [.ref (w.2.2 13), P_z a] [.ref (w.2.2 13)] _ _ from ?_)
  refine P_aw_getR P_i58_1 (hw.2.1 13 (by decide)) (hw.s rfl) rfl rfl (show P_aw _ _ _ 4 [.ref (w.2.2 13), P_z a] [.ref (w.2.2 28)] _ _ from ?_)
  refine P_aw_op (L' := [.ref (w.2.2 13), P_z a]) (st' := [P_z a, .ref (w.2.2 28)]) P_i58_4 rfl (show P_aw _ _ _ 5 [.ref (w.2.2 13), P_z a] [P_z a, .ref (w.2.2 28)] _ _ from ?_)
  refine P_aw_call P_i58_5 rfl rfl (fun _ => rfl) rfl rfl rfl rfl (y2 := 178) (as := [.ref (w.2.2 28), P_z a]) (r0 := []) (fun _ _ => rfl) (Nat.le_of_ble_eq_true rfl) (by decide) rfl (Nat.le_of_ble_eq_true rfl) (show P_aw _ _ _ 0 [.ref (w.2.2 28), P_z a] [] _ _ from ?_)
  refine P_aw_op (L' := [.ref (w.2.2 28), P_z a]) (st' := [P_z a]) P_i178_0 rfl (show P_aw _ _ _ 1 [.ref (w.2.2 28), P_z a] [P_z a] _ _ from ?_)
  refine P_aw_izf P_i178_1 ⟨by omega, by omega⟩ (P_ci_ltf (by omega)) (show P_aw _ _ _ 4 [.ref (w.2.2 28), P_z a] [] _ _ from ?_)
  refine P_aw_op (L' := [.ref (w.2.2 28), P_z a]) (st' := [P_z a]) P_i178_4 rfl (show P_aw _ _ _ 5 [.ref (w.2.2 28), P_z a] [P_z a] _ _ from ?_)
  refine P_aw_op (L' := [.ref (w.2.2 28), P_z a]) (st' := [.ref (w.2.2 28), P_z a]) P_i178_5 rfl (show P_aw _ _ _ 6 [.ref (w.2.2 28), P_z a] [.ref (w.2.2 28), P_z a] _ _ from ?_)
  refine P_aw_alen P_i178_6 (hw.2.1 28 (by decide)) (hw.s rfl) (show P_aw _ _ _ 7 [.ref (w.2.2 28), P_z a] [P_z 3, P_z a] _ _ from ?_)
  refine P_aw_icf P_i178_7 ⟨by omega, by omega⟩ ⟨by decide, by decide⟩ (P_ci_gef (by omega)) (show P_aw _ _ _ 10 [.ref (w.2.2 28), P_z a] [] _ _ from ?_)
  refine P_aw_op (L' := [.ref (w.2.2 28), P_z a]) (st' := [.ref (w.2.2 28)]) P_i178_10 rfl (show P_aw _ _ _ 11 [.ref (w.2.2 28), P_z a] [.ref (w.2.2 28)] _ _ from ?_)
  refine P_aw_op (L' := [.ref (w.2.2 28), P_z a]) (st' := [P_z a, .ref (w.2.2 28)]) P_i178_11 rfl (show P_aw _ _ _ 12 [.ref (w.2.2 28), P_z a] [P_z a, .ref (w.2.2 28)] _ _ from ?_)
  have hg1 := (hO a (by omega) (by omega)).2
  refine P_aw_aldv P_i178_12 (hw.2.1 28 (by decide)) (hw.s rfl) (by omega) (by omega) (by decide) ((hO a (by omega) (by omega)).1) (show P_aw _ _ _ 13 [.ref (w.2.2 28), P_z a] [P_z (od a)] _ _ from ?_)
  refine P_aw_goto P_i178_13 (show P_aw _ _ _ 17 [.ref (w.2.2 28), P_z a] [P_z (od a)] _ _ from ?_)
  refine P_aw_end P_i178_17 rfl rfl (fun _ => rfl) rfl ?_
  show P_aw _ _ _ 8 [.ref (w.2.2 13), P_z a] [P_z (od a)] _ _
  refine P_aw_end P_i58_8 rfl rfl (fun _ => rfl) rfl ?_
  show P_aw _ _ _ 5 [.ref (w.2.2 13), P_z a, P_z b, P_un, P_un] [P_z (od a)] _ _
  refine P_aw_op (L' := [.ref (w.2.2 13), P_z a, P_z b, P_z (od a), P_un]) (st' := []) P_i79_5 rfl (show P_aw _ _ _ 6 [.ref (w.2.2 13), P_z a, P_z b, P_z (od a), P_un] [] _ _ from ?_)
  refine P_aw_op (L' := [.ref (w.2.2 13), P_z a, P_z b, P_z (od a), P_un]) (st' := [.ref (w.2.2 13)]) P_i79_6 rfl (show P_aw _ _ _ 7 [.ref (w.2.2 13), P_z a, P_z b, P_z (od a), P_un] [.ref (w.2.2 13)] _ _ from ?_)
  refine P_aw_getR P_i79_7 (hw.2.1 13 (by decide)) (hw.s rfl) rfl rfl (show P_aw _ _ _ 10 [.ref (w.2.2 13), P_z a, P_z b, P_z (od a), P_un] [.ref (w.2.2 28)] _ _ from ?_)
  refine P_aw_op (L' := [.ref (w.2.2 13), P_z a, P_z b, P_z (od a), P_un]) (st' := [P_z a, .ref (w.2.2 28)]) P_i79_10 rfl (show P_aw _ _ _ 11 [.ref (w.2.2 13), P_z a, P_z b, P_z (od a), P_un] [P_z a, .ref (w.2.2 28)] _ _ from ?_)
  refine P_aw_op (L' := [.ref (w.2.2 13), P_z a, P_z b, P_z (od a), P_un]) (st' := [.ref (w.2.2 13), P_z a, .ref (w.2.2 28)]) P_i79_11 rfl (show P_aw _ _ _ 12 [.ref (w.2.2 13), P_z a, P_z b, P_z (od a), P_un] [.ref (w.2.2 13), P_z a, .ref (w.2.2 28)] _ _ from ?_)
  refine P_aw_op (L' := [.ref (w.2.2 13), P_z a, P_z b, P_z (od a), P_un]) (st' := [P_z b, .ref (w.2.2 13), P_z a, .ref (w.2.2 28)]) P_i79_12 rfl (show P_aw _ _ _ 13 [.ref (w.2.2 13), P_z a, P_z b, P_z (od a), P_un] [P_z b, .ref (w.2.2 13), P_z a, .ref (w.2.2 28)] _ _ from ?_)
  refine P_aw_call P_i79_13 rfl rfl (fun _ => rfl) rfl rfl rfl rfl (y2 := 58) (as := [.ref (w.2.2 13), P_z b]) (r0 := [P_z a, .ref (w.2.2 28)]) (P_inv_v (hw.2.1 13 (by decide)) (hw.s rfl) rfl rfl) (Nat.le_of_ble_eq_true rfl) (by decide) rfl (Nat.le_of_ble_eq_true rfl) (show P_aw _ _ _ 0 [.ref (w.2.2 13), P_z b] [] _ _ from ?_)
  refine P_aw_op (L' := [.ref (w.2.2 13), P_z b]) (st' := [.ref (w.2.2 13)]) P_i58_0 rfl (show P_aw _ _ _ 1 [.ref (w.2.2 13), P_z b] [.ref (w.2.2 13)] _ _ from ?_)
  refine P_aw_getR P_i58_1 (hw.2.1 13 (by decide)) (hw.s rfl) rfl rfl (show P_aw _ _ _ 4 [.ref (w.2.2 13), P_z b] [.ref (w.2.2 28)] _ _ from ?_)
  refine P_aw_op (L' := [.ref (w.2.2 13), P_z b]) (st' := [P_z b, .ref (w.2.2 28)]) P_i58_4 rfl (show P_aw _ _ _ 5 [.ref (w.2.2 13), P_z b] [P_z b, .ref (w.2.2 28)] _ _ from ?_)
  refine P_aw_call P_i58_5 rfl rfl (fun _ => rfl) rfl rfl rfl rfl (y2 := 178) (as := [.ref (w.2.2 28), P_z b]) (r0 := []) (fun _ _ => rfl) (Nat.le_of_ble_eq_true rfl) (by decide) rfl (Nat.le_of_ble_eq_true rfl) (show P_aw _ _ _ 0 [.ref (w.2.2 28), P_z b] [] _ _ from ?_)
  refine P_aw_op (L' := [.ref (w.2.2 28), P_z b]) (st' := [P_z b]) P_i178_0 rfl (show P_aw _ _ _ 1 [.ref (w.2.2 28), P_z b] [P_z b] _ _ from ?_)
  refine P_aw_izf P_i178_1 ⟨by omega, by omega⟩ (P_ci_ltf (by omega)) (show P_aw _ _ _ 4 [.ref (w.2.2 28), P_z b] [] _ _ from ?_)
  refine P_aw_op (L' := [.ref (w.2.2 28), P_z b]) (st' := [P_z b]) P_i178_4 rfl (show P_aw _ _ _ 5 [.ref (w.2.2 28), P_z b] [P_z b] _ _ from ?_)
  refine P_aw_op (L' := [.ref (w.2.2 28), P_z b]) (st' := [.ref (w.2.2 28), P_z b]) P_i178_5 rfl (show P_aw _ _ _ 6 [.ref (w.2.2 28), P_z b] [.ref (w.2.2 28), P_z b] _ _ from ?_)
  refine P_aw_alen P_i178_6 (hw.2.1 28 (by decide)) (hw.s rfl) (show P_aw _ _ _ 7 [.ref (w.2.2 28), P_z b] [P_z 3, P_z b] _ _ from ?_)
  refine P_aw_icf P_i178_7 ⟨by omega, by omega⟩ ⟨by decide, by decide⟩ (P_ci_gef (by omega)) (show P_aw _ _ _ 10 [.ref (w.2.2 28), P_z b] [] _ _ from ?_)
  refine P_aw_op (L' := [.ref (w.2.2 28), P_z b]) (st' := [.ref (w.2.2 28)]) P_i178_10 rfl (show P_aw _ _ _ 11 [.ref (w.2.2 28), P_z b] [.ref (w.2.2 28)] _ _ from ?_)
  refine P_aw_op (L' := [.ref (w.2.2 28), P_z b]) (st' := [P_z b, .ref (w.2.2 28)]) P_i178_11 rfl (show P_aw _ _ _ 12 [.ref (w.2.2 28), P_z b] [P_z b, .ref (w.2.2 28)] _ _ from ?_)
  have hg2 := (hO b (by omega) (by omega)).2
  refine P_aw_aldv P_i178_12 (hw.2.1 28 (by decide)) (hw.s rfl) (by omega) (by omega) (by decide) ((hO b (by omega) (by omega)).1) (show P_aw _ _ _ 13 [.ref (w.2.2 28), P_z b] [P_z (od b)] _ _ from ?_)
  refine P_aw_goto P_i178_13 (show P_aw _ _ _ 17 [.ref (w.2.2 28), P_z b] [P_z (od b)] _ _ from ?_)
  refine P_aw_end P_i178_17 rfl rfl (fun _ => rfl) rfl ?_
  show P_aw _ _ _ 8 [.ref (w.2.2 13), P_z b] [P_z (od b)] _ _
  refine P_aw_end P_i58_8 rfl rfl (fun _ => rfl) rfl ?_
  show P_aw _ _ _ 16 [.ref (w.2.2 13), P_z a, P_z b, P_z (od a), P_un] [P_z (od b), P_z a, .ref (w.2.2 28)] _ _
  refine P_aw_call P_i79_16 rfl rfl (fun _ => rfl) rfl rfl rfl rfl (y2 := 179) (as := [.ref (w.2.2 28), P_z a, P_z (od b)]) (r0 := []) (fun _ _ => rfl) (Nat.le_of_ble_eq_true rfl) (by decide) rfl (Nat.le_of_ble_eq_true rfl) (show P_aw _ _ _ 0 [.ref (w.2.2 28), P_z a, P_z (od b)] [] _ _ from ?_)
  refine P_aw_op (L' := [.ref (w.2.2 28), P_z a, P_z (od b)]) (st' := [P_z a]) P_i179_0 rfl (show P_aw _ _ _ 1 [.ref (w.2.2 28), P_z a, P_z (od b)] [P_z a] _ _ from ?_)
  refine P_aw_izf P_i179_1 ⟨by omega, by omega⟩ (P_ci_ltf (by omega)) (show P_aw _ _ _ 4 [.ref (w.2.2 28), P_z a, P_z (od b)] [] _ _ from ?_)
  refine P_aw_op (L' := [.ref (w.2.2 28), P_z a, P_z (od b)]) (st' := [P_z a]) P_i179_4 rfl (show P_aw _ _ _ 5 [.ref (w.2.2 28), P_z a, P_z (od b)] [P_z a] _ _ from ?_)
  refine P_aw_op (L' := [.ref (w.2.2 28), P_z a, P_z (od b)]) (st' := [.ref (w.2.2 28), P_z a]) P_i179_5 rfl (show P_aw _ _ _ 6 [.ref (w.2.2 28), P_z a, P_z (od b)] [.ref (w.2.2 28), P_z a] _ _ from ?_)
  refine P_aw_alen P_i179_6 (hw.2.1 28 (by decide)) (hw.s rfl) (show P_aw _ _ _ 7 [.ref (w.2.2 28), P_z a, P_z (od b)] [P_z 3, P_z a] _ _ from ?_)
  refine P_aw_icf P_i179_7 ⟨by omega, by omega⟩ ⟨by decide, by decide⟩ (P_ci_gef (by omega)) (show P_aw _ _ _ 10 [.ref (w.2.2 28), P_z a, P_z (od b)] [] _ _ from ?_)
  refine P_aw_op (L' := [.ref (w.2.2 28), P_z a, P_z (od b)]) (st' := [.ref (w.2.2 28)]) P_i179_10 rfl (show P_aw _ _ _ 11 [.ref (w.2.2 28), P_z a, P_z (od b)] [.ref (w.2.2 28)] _ _ from ?_)
  refine P_aw_op (L' := [.ref (w.2.2 28), P_z a, P_z (od b)]) (st' := [P_z a, .ref (w.2.2 28)]) P_i179_11 rfl (show P_aw _ _ _ 12 [.ref (w.2.2 28), P_z a, P_z (od b)] [P_z a, .ref (w.2.2 28)] _ _ from ?_)
  refine P_aw_op (L' := [.ref (w.2.2 28), P_z a, P_z (od b)]) (st' := [P_z (od b), P_z a, .ref (w.2.2 28)]) P_i179_12 rfl (show P_aw _ _ _ 13 [.ref (w.2.2 28), P_z a, P_z (od b)] [P_z (od b), P_z a, .ref (w.2.2 28)] _ _ from ?_)
  refine P_aw_ast P_i179_13 (hw.2.1 28 (by decide)) (hw.s rfl) (by omega) (by omega) (by decide) (show P_aw _ _ _ 14 [.ref (w.2.2 28), P_z a, P_z (od b)] [] _ _ from ?_)
  refine P_aw_end P_i179_14 rfl rfl (fun _ => rfl) rfl ?_
  show P_aw _ _ _ 19 [.ref (w.2.2 13), P_z a, P_z b, P_z (od a), P_un] [] _ _
  refine P_aw_op (L' := [.ref (w.2.2 13), P_z a, P_z b, P_z (od a), P_un]) (st' := [.ref (w.2.2 13)]) P_i79_19 rfl (show P_aw _ _ _ 20 [.ref (w.2.2 13), P_z a, P_z b, P_z (od a), P_un] [.ref (w.2.2 13)] _ _ from ?_)
  refine P_aw_getR P_i79_20 (hw.2.1 13 (by decide)) (hw.s rfl) rfl rfl (show P_aw _ _ _ 23 [.ref (w.2.2 13), P_z a, P_z b, P_z (od a), P_un] [.ref (w.2.2 28)] _ _ from ?_)
  refine P_aw_op (L' := [.ref (w.2.2 13), P_z a, P_z b, P_z (od a), P_un]) (st' := [P_z b, .ref (w.2.2 28)]) P_i79_23 rfl (show P_aw _ _ _ 24 [.ref (w.2.2 13), P_z a, P_z b, P_z (od a), P_un] [P_z b, .ref (w.2.2 28)] _ _ from ?_)
  refine P_aw_op (L' := [.ref (w.2.2 13), P_z a, P_z b, P_z (od a), P_un]) (st' := [P_z (od a), P_z b, .ref (w.2.2 28)]) P_i79_24 rfl (show P_aw _ _ _ 25 [.ref (w.2.2 13), P_z a, P_z b, P_z (od a), P_un] [P_z (od a), P_z b, .ref (w.2.2 28)] _ _ from ?_)
  refine P_aw_call P_i79_25 rfl rfl (fun _ => rfl) rfl rfl rfl rfl (y2 := 179) (as := [.ref (w.2.2 28), P_z b, P_z (od a)]) (r0 := []) (fun _ _ => rfl) (Nat.le_of_ble_eq_true rfl) (by decide) rfl (Nat.le_of_ble_eq_true rfl) (show P_aw _ _ _ 0 [.ref (w.2.2 28), P_z b, P_z (od a)] [] _ _ from ?_)
  refine P_aw_op (L' := [.ref (w.2.2 28), P_z b, P_z (od a)]) (st' := [P_z b]) P_i179_0 rfl (show P_aw _ _ _ 1 [.ref (w.2.2 28), P_z b, P_z (od a)] [P_z b] _ _ from ?_)
  refine P_aw_izf P_i179_1 ⟨by omega, by omega⟩ (P_ci_ltf (by omega)) (show P_aw _ _ _ 4 [.ref (w.2.2 28), P_z b, P_z (od a)] [] _ _ from ?_)
  refine P_aw_op (L' := [.ref (w.2.2 28), P_z b, P_z (od a)]) (st' := [P_z b]) P_i179_4 rfl (show P_aw _ _ _ 5 [.ref (w.2.2 28), P_z b, P_z (od a)] [P_z b] _ _ from ?_)
  refine P_aw_op (L' := [.ref (w.2.2 28), P_z b, P_z (od a)]) (st' := [.ref (w.2.2 28), P_z b]) P_i179_5 rfl (show P_aw _ _ _ 6 [.ref (w.2.2 28), P_z b, P_z (od a)] [.ref (w.2.2 28), P_z b] _ _ from ?_)
  refine P_aw_alen P_i179_6 (hw.2.1 28 (by decide)) (hw.s rfl) (show P_aw _ _ _ 7 [.ref (w.2.2 28), P_z b, P_z (od a)] [P_z 3, P_z b] _ _ from ?_)
  refine P_aw_icf P_i179_7 ⟨by omega, by omega⟩ ⟨by decide, by decide⟩ (P_ci_gef (by omega)) (show P_aw _ _ _ 10 [.ref (w.2.2 28), P_z b, P_z (od a)] [] _ _ from ?_)
  refine P_aw_op (L' := [.ref (w.2.2 28), P_z b, P_z (od a)]) (st' := [.ref (w.2.2 28)]) P_i179_10 rfl (show P_aw _ _ _ 11 [.ref (w.2.2 28), P_z b, P_z (od a)] [.ref (w.2.2 28)] _ _ from ?_)
  refine P_aw_op (L' := [.ref (w.2.2 28), P_z b, P_z (od a)]) (st' := [P_z b, .ref (w.2.2 28)]) P_i179_11 rfl (show P_aw _ _ _ 12 [.ref (w.2.2 28), P_z b, P_z (od a)] [P_z b, .ref (w.2.2 28)] _ _ from ?_)
  refine P_aw_op (L' := [.ref (w.2.2 28), P_z b, P_z (od a)]) (st' := [P_z (od a), P_z b, .ref (w.2.2 28)]) P_i179_12 rfl (show P_aw _ _ _ 13 [.ref (w.2.2 28), P_z b, P_z (od a)] [P_z (od a), P_z b, .ref (w.2.2 28)] _ _ from ?_)
  refine P_aw_ast P_i179_13 (hw.2.1 28 (by decide)) (hw.s rfl) (by omega) (by omega) (by decide) (show P_aw _ _ _ 14 [.ref (w.2.2 28), P_z b, P_z (od a)] [] _ _ from ?_)
  refine P_aw_end P_i179_14 rfl rfl (fun _ => rfl) rfl ?_
  show P_aw _ _ _ 28 [.ref (w.2.2 13), P_z a, P_z b, P_z (od a), P_un] [] _ _
  refine P_aw_op (L' := [.ref (w.2.2 13), P_z a, P_z b, P_z (od a), P_un]) (st' := [P_z 0]) P_i79_28 rfl (show P_aw _ _ _ 29 [.ref (w.2.2 13), P_z a, P_z b, P_z (od a), P_un] [P_z 0] _ _ from ?_)
  refine P_aw_op (L' := [.ref (w.2.2 13), P_z a, P_z b, P_z (od a), P_z 0]) (st' := []) P_i79_29 rfl (show P_aw _ _ _ 31 [.ref (w.2.2 13), P_un, P_un, P_un, P_z 0] [] _ _ from ?_)
  exact s_exl hw cs.length _ [] cs 0 rfl rfl (A_O_x hO ha hb hn.2) (hK2 _ (fun c f h => (P_u2_ne (by omega)).trans (P_u2_ne (by omega)))) hok (fun σ' h1 h2 => q σ' (fun c f g1 g2 g3 => (h1 c f g1 g2).trans ((P_u2_ne (by omega)).trans (P_u2_ne (by omega)))) (A_O_cg (fun b => h1 28 b (by omega) (by omega)) (A_O_x hO ha hb hn.2)) h2)

/-- y and x fix one column to two numbers -/
def A_cx (y x : A_cd) : Prop := (A_cf y 1 = 9 ∧ 1000 ≤ A_cf y 2) ∧ (A_cf x 1 = 9 ∧ 1000 ≤ A_cf x 2) ∧ A_cf y 0 = A_cf x 0 ∧ A_cf y 2 ≠ A_cf x 2
def A_cxb (y x : A_cd) : Bool := decide ((A_cf y 1 = 9 ∧ 1000 ≤ A_cf y 2) ∧ (A_cf x 1 = 9 ∧ 1000 ≤ A_cf x 2) ∧ A_cf y 0 = A_cf x 0 ∧ A_cf y 2 ≠ A_cf x 2)
theorem A_cxb_t {y x : A_cd} (h : A_cx y x) : A_cxb y x = true := decide_eq_true h
theorem A_cxb_f {y x : A_cd} (h : ¬ A_cx y x) : A_cxb y x = false := decide_eq_false h
def A_odd (y : A_cd) : Bool := decide (A_cf y 1 ≠ 9 ∧ A_cf y 0 = A_cf y 2)
/-- whether no meeting can be: behind the conditions A -/
def A_nv : List A_cd → List A_cd → Bool
  | _, [] => false
  | A, y :: B => A_odd y || A.any (A_cxb y) || A_nv (A ++ [y]) B
def A_or (v : Int) (b : Bool) : Int := if v = 1 ∨ b = true then 1 else 0
theorem A_or_rg {v : Int} {b : Bool} : 0 ≤ A_or v b ∧ A_or v b ≤ 1 := by
  unfold A_or
  split <;> omega
theorem A_or_f {v : Int} (h : 0 ≤ v ∧ v ≤ 1) : A_or v false = v := by
  unfold A_or
  by_cases e : v = 1
  · rw [if_pos (Or.inl e), e]
  · rw [if_neg (by simp [e])]
    omega
theorem A_or_1 {b : Bool} : A_or 1 b = 1 := if_pos (Or.inl rfl)
theorem A_or_t {v : Int} : A_or v true = 1 := if_pos (Or.inr rfl)
theorem A_or_or {v : Int} {b c : Bool} : A_or (A_or v b) c = A_or v (b || c) := by
  unfold A_or
  cases b <;> cases c <;> (by_cases e : v = 1) <;> simp [e]
/-- only isNever has changed -/
def A_kn (σ σ' : P_A) : Prop := ∀ a b, ¬ (a = 13 ∧ b = 5) → σ' a b = σ a b
theorem A_kn_rf {σ : P_A} : A_kn σ σ := fun _ _ _ => rfl
theorem A_kn_u {σ : P_A} {v : Int} : A_kn σ (P_u2 σ 13 5 v) := fun a b h => P_u2_ne h
theorem A_kn_tr {σ σ1 σ2 : P_A} (h : A_kn σ σ1) (h2 : A_kn σ1 σ2) : A_kn σ σ2 := fun a b x => (h2 a b x).trans (h a b x)
theorem A_kn_K {σ σ' : P_A} {cs : List A_cd} (h : A_kn σ σ') (hK : A_KL σ cs) : A_KL σ' cs := A_KL_cg (h 13 4 (by omega)) (fun a b h1 h2 => h a b (by omega)) hK
theorem s_nvl {w : P_Lw} (hw : P_Cw w) {d : Nat} {Q : P_R → P_A → Prop} {ns : Int} {cs B : List A_cd} {y : A_cd} {i : Int} (hok : A_oks ns cs) : ∀ (n : Nat) (σ : P_A) (P1 P2 : List A_cd) (j v : Int), cs = P1 ++ (P2 ++ y :: B) → i = (((P1 ++ P2).length : Nat) : Int) → j = ((P1.length : Nat) : Int) → P2.length = n → σ 13 5 = v → (0 ≤ v ∧ v ≤ 1) → A_KL σ cs → (∀ σ', A_kn σ σ' → σ' 13 5 = A_or v (P2.any (A_cxb y)) → P_aw w (d + 3) 77 99 [.ref (w.2.2 13), P_z i, .ref (w.2.2 (15 + i.toNat)), P_z i] [] σ' Q) → P_aw w (d + 3) 77 59 [.ref (w.2.2 13), P_z i, .ref (w.2.2 (15 + i.toNat)), P_z j] [] σ Q := by
  intro n
  induction n with
  | zero =>
    intro σ P1 P2 j v hcs hi hj hP hv hv01 hK q
    obtain rfl : P2 = [] := List.length_eq_zero_iff.mp hP
    have hl : j = i := by rw [hi, hj]; simp
    have hz := hK.2.1
    have hlc : i < (cs.length : Int) := by rw [hcs, hi]; simp; omega
    refine P_aw_op (L' := [.ref (w.2.2 13), P_z i, .ref (w.2.2 (15 + i.toNat)), P_z j]) (st' := [P_z j]) P_i77_59 rfl (show P_aw _ _ _ 60 [.ref (w.2.2 13), P_z i, .ref (w.2.2 (15 + i.toNat)), P_z j] [P_z j] _ _ from ?_)
    refine P_aw_op (L' := [.ref (w.2.2 13), P_z i, .ref (w.2.2 (15 + i.toNat)), P_z j]) (st' := [P_z i, P_z j]) P_i77_60 rfl (show P_aw _ _ _ 61 [.ref (w.2.2 13), P_z i, .ref (w.2.2 (15 + i.toNat)), P_z j] [P_z i, P_z j] _ _ from ?_)
    refine P_aw_ict P_i77_61 ⟨by omega, by omega⟩ ⟨by omega, by omega⟩ (P_ci_get (by omega)) (show P_aw _ _ _ 99 [.ref (w.2.2 13), P_z i, .ref (w.2.2 (15 + i.toNat)), P_z j] [] _ _ from ?_)
    subst hl; exact q σ A_kn_rf (by rw [hv]; exact (A_or_f hv01).symm)
  | succ n ih =>
    intro σ P1 P2 j v hcs hi hj hP hv hv01 hK q
    obtain ⟨x, P2, rfl⟩ : ∃ x B', P2 = x :: B' := by
      cases P2 with
      | nil => exact absurd hP (by simp)
      | cons x B => exact ⟨x, B, rfl⟩
    have hlP : P2.length = n := Nat.succ.inj hP
    have hl : i = j + 1 + (n : Int) := by rw [hi, hj, A_len, hlP]
    have hz := hK.2.1
    have hlc : i < (cs.length : Int) := by rw [hcs, hi]; simp; omega
    have hx : ∀ f, A_lc cs j f = A_cf x f := fun f => by rw [hcs]; exact A_lc_mid (B := P2 ++ y :: B) hj f
    have hy : ∀ f, A_lc cs i f = A_cf y f := fun f => by rw [hcs, ← List.append_assoc]; exact A_lc_mid hi f
    have hox : A_ok ns x := hok x (by rw [hcs]; simp)
    have hoy : A_ok ns y := hok y (by rw [hcs]; simp)
    have hokx := A_ok_rg hox
    have hoky := A_ok_rg hoy
    refine P_aw_op (L' := [.ref (w.2.2 13), P_z i, .ref (w.2.2 (15 + i.toNat)), P_z j]) (st' := [P_z j]) P_i77_59 rfl (show P_aw _ _ _ 60 [.ref (w.2.2 13), P_z i, .ref (w.2.2 (15 + i.toNat)), P_z j] [P_z j] _ _ from ?_)
    refine P_aw_op (L' := [.ref (w.2.2 13), P_z i, .ref (w.2.2 (15 + i.toNat)), P_z j]) (st' := [P_z i, P_z j]) P_i77_60 rfl (show P_aw _ _ _ 61 [.ref (w.2.2 13), P_z i, .ref (w.2.2 (15 + i.toNat)), P_z j] [P_z i, P_z j] _ _ from ?_)
    refine P_aw_icf P_i77_61 ⟨by omega, by omega⟩ ⟨by omega, by omega⟩ (P_ci_gef (by omega)) (show P_aw _ _ _ 64 [.ref (w.2.2 13), P_z i, .ref (w.2.2 (15 + i.toNat)), P_z j] [] _ _ from ?_)
    refine P_aw_op (L' := [.ref (w.2.2 13), P_z i, .ref (w.2.2 (15 + i.toNat)), P_z j]) (st' := [.ref (w.2.2 13)]) P_i77_64 rfl (show P_aw _ _ _ 65 [.ref (w.2.2 13), P_z i, .ref (w.2.2 (15 + i.toNat)), P_z j] [.ref (w.2.2 13)] _ _ from ?_)
    refine P_aw_op (L' := [.ref (w.2.2 13), P_z i, .ref (w.2.2 (15 + i.toNat)), P_z j]) (st' := [.ref (w.2.2 13), .ref (w.2.2 13)]) P_i77_65 rfl (show P_aw _ _ _ 66 [.ref (w.2.2 13), P_z i, .ref (w.2.2 (15 + i.toNat)), P_z j] [.ref (w.2.2 13), .ref (w.2.2 13)] _ _ from ?_)
    refine P_aw_getv P_i77_66 (hw.2.1 13 (by decide)) (hw.s rfl) rfl rfl (hv) (show P_aw _ _ _ 69 [.ref (w.2.2 13), P_z i, .ref (w.2.2 (15 + i.toNat)), P_z j] [P_z v, .ref (w.2.2 13)] _ _ from ?_)
    by_cases hc1 : v = 0
    · refine P_aw_izf P_i77_69 ⟨by omega, by omega⟩ (P_ci_nef (by omega)) (show P_aw _ _ _ 72 [.ref (w.2.2 13), P_z i, .ref (w.2.2 (15 + i.toNat)), P_z j] [.ref (w.2.2 13)] _ _ from ?_)
      refine P_aw_op (L' := [.ref (w.2.2 13), P_z i, .ref (w.2.2 (15 + i.toNat)), P_z j]) (st' := [.ref (w.2.2 13), .ref (w.2.2 13)]) P_i77_72 rfl (show P_aw _ _ _ 73 [.ref (w.2.2 13), P_z i, .ref (w.2.2 (15 + i.toNat)), P_z j] [.ref (w.2.2 13), .ref (w.2.2 13)] _ _ from ?_)
      refine P_aw_op (L' := [.ref (w.2.2 13), P_z i, .ref (w.2.2 (15 + i.toNat)), P_z j]) (st' := [.ref (w.2.2 (15 + i.toNat)), .ref (w.2.2 13), .ref (w.2.2 13)]) P_i77_73 rfl (show P_aw _ _ _ 74 [.ref (w.2.2 13), P_z i, .ref (w.2.2 (15 + i.toNat)), P_z j] [.ref (w.2.2 (15 + i.toNat)), .ref (w.2.2 13), .ref (w.2.2 13)] _ _ from ?_)
      refine P_aw_op (L' := [.ref (w.2.2 13), P_z i, .ref (w.2.2 (15 + i.toNat)), P_z j]) (st' := [.ref (w.2.2 13), .ref (w.2.2 (15 + i.toNat)), .ref (w.2.2 13), .ref (w.2.2 13)]) P_i77_74 rfl (show P_aw _ _ _ 75 [.ref (w.2.2 13), P_z i, .ref (w.2.2 (15 + i.toNat)), P_z j] [.ref (w.2.2 13), .ref (w.2.2 (15 + i.toNat)), .ref (w.2.2 13), .ref (w.2.2 13)] _ _ from ?_)
      refine P_aw_op (L' := [.ref (w.2.2 13), P_z i, .ref (w.2.2 (15 + i.toNat)), P_z j]) (st' := [P_z j, .ref (w.2.2 13), .ref (w.2.2 (15 + i.toNat)), .ref (w.2.2 13), .ref (w.2.2 13)]) P_i77_75 rfl (show P_aw _ _ _ 76 [.ref (w.2.2 13), P_z i, .ref (w.2.2 (15 + i.toNat)), P_z j] [P_z j, .ref (w.2.2 13), .ref (w.2.2 (15 + i.toNat)), .ref (w.2.2 13), .ref (w.2.2 13)] _ _ from ?_)
      refine P_aw_call P_i77_76 rfl rfl (fun _ => rfl) rfl rfl rfl rfl (y2 := 59) (as := [.ref (w.2.2 13), P_z j]) (r0 := [.ref (w.2.2 (15 + i.toNat)), .ref (w.2.2 13), .ref (w.2.2 13)]) (P_inv_v (hw.2.1 13 (by decide)) (hw.s rfl) rfl rfl) (Nat.le_of_ble_eq_true rfl) (by decide) rfl (Nat.le_of_ble_eq_true rfl) (show P_aw _ _ _ 0 [.ref (w.2.2 13), P_z j, P_un] [] _ _ from ?_)
      refine P_aw_op (L' := [.ref (w.2.2 13), P_z j, P_un]) (st' := [P_z j]) P_i59_0 rfl (show P_aw _ _ _ 1 [.ref (w.2.2 13), P_z j, P_un] [P_z j] _ _ from ?_)
      refine P_aw_izf P_i59_1 ⟨by omega, by omega⟩ (P_ci_ltf (by omega)) (show P_aw _ _ _ 4 [.ref (w.2.2 13), P_z j, P_un] [] _ _ from ?_)
      refine P_aw_op (L' := [.ref (w.2.2 13), P_z j, P_un]) (st' := [P_z j]) P_i59_4 rfl (show P_aw _ _ _ 5 [.ref (w.2.2 13), P_z j, P_un] [P_z j] _ _ from ?_)
      refine P_aw_op (L' := [.ref (w.2.2 13), P_z j, P_un]) (st' := [.ref (w.2.2 13), P_z j]) P_i59_5 rfl (show P_aw _ _ _ 6 [.ref (w.2.2 13), P_z j, P_un] [.ref (w.2.2 13), P_z j] _ _ from ?_)
      refine P_aw_getR P_i59_6 (hw.2.1 13 (by decide)) (hw.s rfl) rfl rfl (show P_aw _ _ _ 9 [.ref (w.2.2 13), P_z j, P_un] [.ref (w.2.2 14), P_z j] _ _ from ?_)
      refine P_aw_clen P_i59_9 (hw.2.1 14 (by decide)) (hw.s rfl) rfl (show P_aw _ _ _ 10 [.ref (w.2.2 13), P_z j, P_un] [P_z 12, P_z j] _ _ from ?_)
      refine P_aw_ict P_i59_10 ⟨by omega, by omega⟩ ⟨by decide, by decide⟩ (P_ci_ltt (by omega)) (show P_aw _ _ _ 18 [.ref (w.2.2 13), P_z j, P_un] [] _ _ from ?_)
      refine P_aw_op (L' := [.ref (w.2.2 13), P_z j, P_un]) (st' := [.ref (w.2.2 13)]) P_i59_18 rfl (show P_aw _ _ _ 19 [.ref (w.2.2 13), P_z j, P_un] [.ref (w.2.2 13)] _ _ from ?_)
      refine P_aw_getR P_i59_19 (hw.2.1 13 (by decide)) (hw.s rfl) rfl rfl (show P_aw _ _ _ 22 [.ref (w.2.2 13), P_z j, P_un] [.ref (w.2.2 14)] _ _ from ?_)
      refine P_aw_op (L' := [.ref (w.2.2 13), P_z j, P_un]) (st' := [P_z j, .ref (w.2.2 14)]) P_i59_22 rfl (show P_aw _ _ _ 23 [.ref (w.2.2 13), P_z j, P_un] [P_z j, .ref (w.2.2 14)] _ _ from ?_)
      refine P_aw_cld P_i59_23 (hw.2.1 14 (by decide)) (hw.s rfl) (by decide) (by omega) (P_c12 (by omega)) (by decide) (show P_aw _ _ _ 24 [.ref (w.2.2 13), P_z j, P_un] [.ref (w.2.2 (15 + j.toNat))] _ _ from ?_)
      refine P_aw_op (L' := [.ref (w.2.2 13), P_z j, .ref (w.2.2 (15 + j.toNat))]) (st' := []) P_i59_24 rfl (show P_aw _ _ _ 25 [.ref (w.2.2 13), P_z j, .ref (w.2.2 (15 + j.toNat))] [] _ _ from ?_)
      refine P_aw_op (L' := [.ref (w.2.2 13), P_z j, .ref (w.2.2 (15 + j.toNat))]) (st' := [.ref (w.2.2 (15 + j.toNat))]) P_i59_25 rfl (show P_aw _ _ _ 26 [.ref (w.2.2 13), P_z j, .ref (w.2.2 (15 + j.toNat))] [.ref (w.2.2 (15 + j.toNat))] _ _ from ?_)
      refine P_aw_brt P_i59_26 rfl (show P_aw _ _ _ 36 [.ref (w.2.2 13), P_z j, .ref (w.2.2 (15 + j.toNat))] [] _ _ from ?_)
      refine P_aw_op (L' := [.ref (w.2.2 13), P_z j, .ref (w.2.2 (15 + j.toNat))]) (st' := [.ref (w.2.2 (15 + j.toNat))]) P_i59_36 rfl (show P_aw _ _ _ 37 [.ref (w.2.2 13), P_z j, .ref (w.2.2 (15 + j.toNat))] [.ref (w.2.2 (15 + j.toNat))] _ _ from ?_)
      refine P_aw_end P_i59_37 rfl rfl (fun _ => rfl) rfl ?_
      show P_aw _ _ _ 79 [.ref (w.2.2 13), P_z i, .ref (w.2.2 (15 + i.toNat)), P_z j] [.ref (w.2.2 (15 + j.toNat)), .ref (w.2.2 (15 + i.toNat)), .ref (w.2.2 13), .ref (w.2.2 13)] _ _
      refine P_aw_call P_i77_79 rfl rfl (fun _ => rfl) rfl rfl rfl rfl (y2 := 78) (as := [.ref (w.2.2 13), .ref (w.2.2 (15 + i.toNat)), .ref (w.2.2 (15 + j.toNat))]) (r0 := [.ref (w.2.2 13)]) (P_inv_v (hw.2.1 13 (by decide)) (hw.s rfl) rfl rfl) (Nat.le_of_ble_eq_true rfl) (by decide) rfl (Nat.le_of_ble_eq_true rfl) (show P_aw _ _ _ 0 [.ref (w.2.2 13), .ref (w.2.2 (15 + i.toNat)), .ref (w.2.2 (15 + j.toNat))] [] _ _ from ?_)
      refine P_aw_op (L' := [.ref (w.2.2 13), .ref (w.2.2 (15 + i.toNat)), .ref (w.2.2 (15 + j.toNat))]) (st' := [.ref (w.2.2 (15 + i.toNat))]) P_i78_0 rfl (show P_aw _ _ _ 1 [.ref (w.2.2 13), .ref (w.2.2 (15 + i.toNat)), .ref (w.2.2 (15 + j.toNat))] [.ref (w.2.2 (15 + i.toNat))] _ _ from ?_)
      refine P_aw_call P_i78_1 rfl rfl (fun _ => rfl) rfl rfl rfl rfl (y2 := 18) (as := [.ref (w.2.2 (15 + i.toNat))]) (r0 := []) (P_inv_v (hw.c (by omega)).2 (hw.c (by omega)).1 rfl rfl) (Nat.le_of_ble_eq_true rfl) (by decide) rfl (Nat.le_of_ble_eq_true rfl) (show P_aw _ _ _ 0 [.ref (w.2.2 (15 + i.toNat))] [] _ _ from ?_)
      refine P_aw_op (L' := [.ref (w.2.2 (15 + i.toNat))]) (st' := [.ref (w.2.2 (15 + i.toNat))]) P_i18_0 rfl (show P_aw _ _ _ 1 [.ref (w.2.2 (15 + i.toNat))] [.ref (w.2.2 (15 + i.toNat))] _ _ from ?_)
      have hg2 := A_ok_rg hoy
      refine P_aw_getv P_i18_1 (hw.c (by omega)).2 (hw.c (by omega)).1 rfl rfl ((hK.2.2 i 1 (by omega) (by omega) (by omega)).trans (hy 1)) (show P_aw _ _ _ 4 [.ref (w.2.2 (15 + i.toNat))] [P_z (A_cf y 1)] _ _ from ?_)
      refine P_aw_op (L' := [.ref (w.2.2 (15 + i.toNat))]) (st' := [P_z 9, P_z (A_cf y 1)]) P_i18_4 (P_o_bi (by decide)) (show P_aw _ _ _ 6 [.ref (w.2.2 (15 + i.toNat))] [P_z 9, P_z (A_cf y 1)] _ _ from ?_)
      by_cases hc3 : (A_cf y 1) = 9
      · refine P_aw_icf P_i18_6 ⟨by omega, by omega⟩ ⟨by decide, by decide⟩ (P_ci_nef (by omega)) (show P_aw _ _ _ 9 [.ref (w.2.2 (15 + i.toNat))] [] _ _ from ?_)
        refine P_aw_op (L' := [.ref (w.2.2 (15 + i.toNat))]) (st' := [.ref (w.2.2 (15 + i.toNat))]) P_i18_9 rfl (show P_aw _ _ _ 10 [.ref (w.2.2 (15 + i.toNat))] [.ref (w.2.2 (15 + i.toNat))] _ _ from ?_)
        have hg4 := A_ok_rg hoy
        refine P_aw_getv P_i18_10 (hw.c (by omega)).2 (hw.c (by omega)).1 rfl rfl ((hK.2.2 i 2 (by omega) (by omega) (by omega)).trans (hy 2)) (show P_aw _ _ _ 13 [.ref (w.2.2 (15 + i.toNat))] [P_z (A_cf y 2)] _ _ from ?_)
        refine P_aw_call P_i18_13 rfl rfl (fun _ => rfl) rfl rfl rfl rfl (y2 := 175) (as := [P_z (A_cf y 2)]) (r0 := []) (fun _ _ => rfl) (Nat.le_of_ble_eq_true rfl) (by decide) rfl (Nat.le_of_ble_eq_true rfl) (show P_aw _ _ _ 0 [P_z (A_cf y 2)] [] _ _ from ?_)
        refine P_aw_op (L' := [P_z (A_cf y 2)]) (st' := [P_z (A_cf y 2)]) P_i175_0 rfl (show P_aw _ _ _ 1 [P_z (A_cf y 2)] [P_z (A_cf y 2)] _ _ from ?_)
        refine P_aw_op (L' := [P_z (A_cf y 2)]) (st' := [P_z 1000, P_z (A_cf y 2)]) P_i175_1 (P_o_si (by decide)) (show P_aw _ _ _ 4 [P_z (A_cf y 2)] [P_z 1000, P_z (A_cf y 2)] _ _ from ?_)
        rcases Int.lt_or_le (A_cf y 2) 1000 with hc5 | hc5
        · refine P_aw_ict P_i175_4 ⟨by omega, by omega⟩ ⟨by decide, by decide⟩ (P_ci_ltt (by omega)) (show P_aw _ _ _ 18 [P_z (A_cf y 2)] [] _ _ from ?_)
          refine P_aw_op (L' := [P_z (A_cf y 2)]) (st' := [P_z 0]) P_i175_18 rfl (show P_aw _ _ _ 19 [P_z (A_cf y 2)] [P_z 0] _ _ from ?_)
          refine P_aw_end P_i175_19 rfl rfl (fun _ => rfl) rfl ?_
          show P_aw _ _ _ 16 [.ref (w.2.2 (15 + i.toNat))] [P_z 0] _ _
          refine P_aw_izt P_i18_16 ⟨by decide, by decide⟩ (P_ci_eqt (by omega)) (show P_aw _ _ _ 23 [.ref (w.2.2 (15 + i.toNat))] [] _ _ from ?_)
          refine P_aw_op (L' := [.ref (w.2.2 (15 + i.toNat))]) (st' := [P_z 0]) P_i18_23 rfl (show P_aw _ _ _ 24 [.ref (w.2.2 (15 + i.toNat))] [P_z 0] _ _ from ?_)
          refine P_aw_end P_i18_24 rfl rfl (fun _ => rfl) rfl ?_
          show P_aw _ _ _ 4 [.ref (w.2.2 13), .ref (w.2.2 (15 + i.toNat)), .ref (w.2.2 (15 + j.toNat))] [P_z 0] _ _
          refine P_aw_izt P_i78_4 ⟨by decide, by decide⟩ (P_ci_eqt (by omega)) (show P_aw _ _ _ 40 [.ref (w.2.2 13), .ref (w.2.2 (15 + i.toNat)), .ref (w.2.2 (15 + j.toNat))] [] _ _ from ?_)
          refine P_aw_op (L' := [.ref (w.2.2 13), .ref (w.2.2 (15 + i.toNat)), .ref (w.2.2 (15 + j.toNat))]) (st' := [P_z 0]) P_i78_40 rfl (show P_aw _ _ _ 41 [.ref (w.2.2 13), .ref (w.2.2 (15 + i.toNat)), .ref (w.2.2 (15 + j.toNat))] [P_z 0] _ _ from ?_)
          refine P_aw_end P_i78_41 rfl rfl (fun _ => rfl) rfl ?_
          show P_aw _ _ _ 82 [.ref (w.2.2 13), P_z i, .ref (w.2.2 (15 + i.toNat)), P_z j] [P_z 0, .ref (w.2.2 13)] _ _
          refine P_aw_izt P_i77_82 ⟨by decide, by decide⟩ (P_ci_eqt (by omega)) (show P_aw _ _ _ 89 [.ref (w.2.2 13), P_z i, .ref (w.2.2 (15 + i.toNat)), P_z j] [.ref (w.2.2 13)] _ _ from ?_)
          refine P_aw_op (L' := [.ref (w.2.2 13), P_z i, .ref (w.2.2 (15 + i.toNat)), P_z j]) (st' := [P_z 0, .ref (w.2.2 13)]) P_i77_89 rfl (show P_aw _ _ _ 90 [.ref (w.2.2 13), P_z i, .ref (w.2.2 (15 + i.toNat)), P_z j] [P_z 0, .ref (w.2.2 13)] _ _ from ?_)
          refine P_aw_put P_i77_90 (hw.2.1 13 (by decide)) (hw.s rfl) rfl rfl rfl (show P_aw _ _ _ 93 [.ref (w.2.2 13), P_z i, .ref (w.2.2 (15 + i.toNat)), P_z j] [] _ _ from ?_)
          refine P_aw_op (L' := [.ref (w.2.2 13), P_z i, .ref (w.2.2 (15 + i.toNat)), P_z (j + 1)]) (st' := []) P_i77_93 (P_o_iinc rfl) (show P_aw _ _ _ 96 [.ref (w.2.2 13), P_z i, .ref (w.2.2 (15 + i.toNat)), P_z (j + 1)] [] _ _ from ?_)
          refine P_aw_goto P_i77_96 (show P_aw _ _ _ 59 [.ref (w.2.2 13), P_z i, .ref (w.2.2 (15 + i.toNat)), P_z (j + 1)] [] _ _ from ?_)
          have e : A_or v ((x :: P2).any (A_cxb y)) = A_or 0 (P2.any (A_cxb y)) := (by rw [List.any_cons]; first | (have e1 : v = 1 := (by omega); rw [e1, A_or_1, A_or_1]) | (rw [A_cxb_t (by unfold A_cx; omega), Bool.true_or, A_or_t, A_or_1]) | (have e0 : v = 0 := (by omega); rw [A_cxb_f (by unfold A_cx; omega), Bool.false_or, e0])); exact ih _ (P1 ++ [x]) P2 (j + 1) 0 (by rw [hcs]; simp) (by rw [hi]; simp) (by rw [hj]; simp) hlP P_u2_at (by omega) (A_kn_K A_kn_u hK) (fun σ' h1 h2 => q σ' (A_kn_tr A_kn_u h1) (h2.trans e.symm))
        · refine P_aw_icf P_i175_4 ⟨by omega, by omega⟩ ⟨by decide, by decide⟩ (P_ci_ltf (by omega)) (show P_aw _ _ _ 7 [P_z (A_cf y 2)] [] _ _ from ?_)
          refine P_aw_op (L' := [P_z (A_cf y 2)]) (st' := [P_z (A_cf y 2)]) P_i175_7 rfl (show P_aw _ _ _ 8 [P_z (A_cf y 2)] [P_z (A_cf y 2)] _ _ from ?_)
          refine P_aw_op (L' := [P_z (A_cf y 2)]) (st' := [P_z 1999, P_z (A_cf y 2)]) P_i175_8 (P_o_si (by decide)) (show P_aw _ _ _ 11 [P_z (A_cf y 2)] [P_z 1999, P_z (A_cf y 2)] _ _ from ?_)
          refine P_aw_icf P_i175_11 ⟨by omega, by omega⟩ ⟨by decide, by decide⟩ (P_ci_gtf (by omega)) (show P_aw _ _ _ 14 [P_z (A_cf y 2)] [] _ _ from ?_)
          refine P_aw_op (L' := [P_z (A_cf y 2)]) (st' := [P_z 1]) P_i175_14 rfl (show P_aw _ _ _ 15 [P_z (A_cf y 2)] [P_z 1] _ _ from ?_)
          refine P_aw_goto P_i175_15 (show P_aw _ _ _ 19 [P_z (A_cf y 2)] [P_z 1] _ _ from ?_)
          refine P_aw_end P_i175_19 rfl rfl (fun _ => rfl) rfl ?_
          show P_aw _ _ _ 16 [.ref (w.2.2 (15 + i.toNat))] [P_z 1] _ _
          refine P_aw_izf P_i18_16 ⟨by decide, by decide⟩ (P_ci_eqf (by omega)) (show P_aw _ _ _ 19 [.ref (w.2.2 (15 + i.toNat))] [] _ _ from ?_)
          refine P_aw_op (L' := [.ref (w.2.2 (15 + i.toNat))]) (st' := [P_z 1]) P_i18_19 rfl (show P_aw _ _ _ 20 [.ref (w.2.2 (15 + i.toNat))] [P_z 1] _ _ from ?_)
          refine P_aw_goto P_i18_20 (show P_aw _ _ _ 24 [.ref (w.2.2 (15 + i.toNat))] [P_z 1] _ _ from ?_)
          refine P_aw_end P_i18_24 rfl rfl (fun _ => rfl) rfl ?_
          show P_aw _ _ _ 4 [.ref (w.2.2 13), .ref (w.2.2 (15 + i.toNat)), .ref (w.2.2 (15 + j.toNat))] [P_z 1] _ _
          refine P_aw_izf P_i78_4 ⟨by decide, by decide⟩ (P_ci_eqf (by omega)) (show P_aw _ _ _ 7 [.ref (w.2.2 13), .ref (w.2.2 (15 + i.toNat)), .ref (w.2.2 (15 + j.toNat))] [] _ _ from ?_)
          refine P_aw_op (L' := [.ref (w.2.2 13), .ref (w.2.2 (15 + i.toNat)), .ref (w.2.2 (15 + j.toNat))]) (st' := [.ref (w.2.2 (15 + j.toNat))]) P_i78_7 rfl (show P_aw _ _ _ 8 [.ref (w.2.2 13), .ref (w.2.2 (15 + i.toNat)), .ref (w.2.2 (15 + j.toNat))] [.ref (w.2.2 (15 + j.toNat))] _ _ from ?_)
          refine P_aw_call P_i78_8 rfl rfl (fun _ => rfl) rfl rfl rfl rfl (y2 := 18) (as := [.ref (w.2.2 (15 + j.toNat))]) (r0 := []) (P_inv_v (hw.c (by omega)).2 (hw.c (by omega)).1 rfl rfl) (Nat.le_of_ble_eq_true rfl) (by decide) rfl (Nat.le_of_ble_eq_true rfl) (show P_aw _ _ _ 0 [.ref (w.2.2 (15 + j.toNat))] [] _ _ from ?_)
          refine P_aw_op (L' := [.ref (w.2.2 (15 + j.toNat))]) (st' := [.ref (w.2.2 (15 + j.toNat))]) P_i18_0 rfl (show P_aw _ _ _ 1 [.ref (w.2.2 (15 + j.toNat))] [.ref (w.2.2 (15 + j.toNat))] _ _ from ?_)
          have hg6 := A_ok_rg hox
          refine P_aw_getv P_i18_1 (hw.c (by omega)).2 (hw.c (by omega)).1 rfl rfl ((hK.2.2 j 1 (by omega) (by omega) (by omega)).trans (hx 1)) (show P_aw _ _ _ 4 [.ref (w.2.2 (15 + j.toNat))] [P_z (A_cf x 1)] _ _ from ?_)
          refine P_aw_op (L' := [.ref (w.2.2 (15 + j.toNat))]) (st' := [P_z 9, P_z (A_cf x 1)]) P_i18_4 (P_o_bi (by decide)) (show P_aw _ _ _ 6 [.ref (w.2.2 (15 + j.toNat))] [P_z 9, P_z (A_cf x 1)] _ _ from ?_)
          by_cases hc7 : (A_cf x 1) = 9
          · refine P_aw_icf P_i18_6 ⟨by omega, by omega⟩ ⟨by decide, by decide⟩ (P_ci_nef (by omega)) (show P_aw _ _ _ 9 [.ref (w.2.2 (15 + j.toNat))] [] _ _ from ?_)
            refine P_aw_op (L' := [.ref (w.2.2 (15 + j.toNat))]) (st' := [.ref (w.2.2 (15 + j.toNat))]) P_i18_9 rfl (show P_aw _ _ _ 10 [.ref (w.2.2 (15 + j.toNat))] [.ref (w.2.2 (15 + j.toNat))] _ _ from ?_)
            have hg8 := A_ok_rg hox
            refine P_aw_getv P_i18_10 (hw.c (by omega)).2 (hw.c (by omega)).1 rfl rfl ((hK.2.2 j 2 (by omega) (by omega) (by omega)).trans (hx 2)) (show P_aw _ _ _ 13 [.ref (w.2.2 (15 + j.toNat))] [P_z (A_cf x 2)] _ _ from ?_)
            refine P_aw_call P_i18_13 rfl rfl (fun _ => rfl) rfl rfl rfl rfl (y2 := 175) (as := [P_z (A_cf x 2)]) (r0 := []) (fun _ _ => rfl) (Nat.le_of_ble_eq_true rfl) (by decide) rfl (Nat.le_of_ble_eq_true rfl) (show P_aw _ _ _ 0 [P_z (A_cf x 2)] [] _ _ from ?_)
            refine P_aw_op (L' := [P_z (A_cf x 2)]) (st' := [P_z (A_cf x 2)]) P_i175_0 rfl (show P_aw _ _ _ 1 [P_z (A_cf x 2)] [P_z (A_cf x 2)] _ _ from ?_)
            refine P_aw_op (L' := [P_z (A_cf x 2)]) (st' := [P_z 1000, P_z (A_cf x 2)]) P_i175_1 (P_o_si (by decide)) (show P_aw _ _ _ 4 [P_z (A_cf x 2)] [P_z 1000, P_z (A_cf x 2)] _ _ from ?_)
            rcases Int.lt_or_le (A_cf x 2) 1000 with hc9 | hc9
            · refine P_aw_ict P_i175_4 ⟨by omega, by omega⟩ ⟨by decide, by decide⟩ (P_ci_ltt (by omega)) (show P_aw _ _ _ 18 [P_z (A_cf x 2)] [] _ _ from ?_)
              refine P_aw_op (L' := [P_z (A_cf x 2)]) (st' := [P_z 0]) P_i175_18 rfl (show P_aw _ _ _ 19 [P_z (A_cf x 2)] [P_z 0] _ _ from ?_)
              refine P_aw_end P_i175_19 rfl rfl (fun _ => rfl) rfl ?_
              show P_aw _ _ _ 16 [.ref (w.2.2 (15 + j.toNat))] [P_z 0] _ _
              refine P_aw_izt P_i18_16 ⟨by decide, by decide⟩ (P_ci_eqt (by omega)) (show P_aw _ _ _ 23 [.ref (w.2.2 (15 + j.toNat))] [] _ _ from ?_)
              refine P_aw_op (L' := [.ref (w.2.2 (15 + j.toNat))]) (st' := [P_z 0]) P_i18_23 rfl (show P_aw _ _ _ 24 [.ref (w.2.2 (15 + j.toNat))] [P_z 0] _ _ from ?_)
              refine P_aw_end P_i18_24 rfl rfl (fun _ => rfl) rfl ?_
              show P_aw _ _ _ 11 [.ref (w.2.2 13), .ref (w.2.2 (15 + i.toNat)), .ref (w.2.2 (15 + j.toNat))] [P_z 0] _ _
              refine P_aw_izt P_i78_11 ⟨by decide, by decide⟩ (P_ci_eqt (by omega)) (show P_aw _ _ _ 40 [.ref (w.2.2 13), .ref (w.2.2 (15 + i.toNat)), .ref (w.2.2 (15 + j.toNat))] [] _ _ from ?_)
              refine P_aw_op (L' := [.ref (w.2.2 13), .ref (w.2.2 (15 + i.toNat)), .ref (w.2.2 (15 + j.toNat))]) (st' := [P_z 0]) P_i78_40 rfl (show P_aw _ _ _ 41 [.ref (w.2.2 13), .ref (w.2.2 (15 + i.toNat)), .ref (w.2.2 (15 + j.toNat))] [P_z 0] _ _ from ?_)
              refine P_aw_end P_i78_41 rfl rfl (fun _ => rfl) rfl ?_
              show P_aw _ _ _ 82 [.ref (w.2.2 13), P_z i, .ref (w.2.2 (15 + i.toNat)), P_z j] [P_z 0, .ref (w.2.2 13)] _ _
              refine P_aw_izt P_i77_82 ⟨by decide, by decide⟩ (P_ci_eqt (by omega)) (show P_aw _ _ _ 89 [.ref (w.2.2 13), P_z i, .ref (w.2.2 (15 + i.toNat)), P_z j] [.ref (w.2.2 13)] _ _ from ?_)
              refine P_aw_op (L' := [.ref (w.2.2 13), P_z i, .ref (w.2.2 (15 + i.toNat)), P_z j]) (st' := [P_z 0, .ref (w.2.2 13)]) P_i77_89 rfl (show P_aw _ _ _ 90 [.ref (w.2.2 13), P_z i, .ref (w.2.2 (15 + i.toNat)), P_z j] [P_z 0, .ref (w.2.2 13)] _ _ from ?_)
              refine P_aw_put P_i77_90 (hw.2.1 13 (by decide)) (hw.s rfl) rfl rfl rfl (show P_aw _ _ _ 93 [.ref (w.2.2 13), P_z i, .ref (w.2.2 (15 + i.toNat)), P_z j] [] _ _ from ?_)
              refine P_aw_op (L' := [.ref (w.2.2 13), P_z i, .ref (w.2.2 (15 + i.toNat)), P_z (j + 1)]) (st' := []) P_i77_93 (P_o_iinc rfl) (show P_aw _ _ _ 96 [.ref (w.2.2 13), P_z i, .ref (w.2.2 (15 + i.toNat)), P_z (j + 1)] [] _ _ from ?_)
              refine P_aw_goto P_i77_96 (show P_aw _ _ _ 59 [.ref (w.2.2 13), P_z i, .ref (w.2.2 (15 + i.toNat)), P_z (j + 1)] [] _ _ from ?_)
              have e : A_or v ((x :: P2).any (A_cxb y)) = A_or 0 (P2.any (A_cxb y)) := (by rw [List.any_cons]; first | (have e1 : v = 1 := (by omega); rw [e1, A_or_1, A_or_1]) | (rw [A_cxb_t (by unfold A_cx; omega), Bool.true_or, A_or_t, A_or_1]) | (have e0 : v = 0 := (by omega); rw [A_cxb_f (by unfold A_cx; omega), Bool.false_or, e0])); exact ih _ (P1 ++ [x]) P2 (j + 1) 0 (by rw [hcs]; simp) (by rw [hi]; simp) (by rw [hj]; simp) hlP P_u2_at (by omega) (A_kn_K A_kn_u hK) (fun σ' h1 h2 => q σ' (A_kn_tr A_kn_u h1) (h2.trans e.symm))
            · refine P_aw_icf P_i175_4 ⟨by omega, by omega⟩ ⟨by decide, by decide⟩ (P_ci_ltf (by omega)) (show P_aw _ _ _ 7 [P_z (A_cf x 2)] [] _ _ from ?_)
              refine P_aw_op (L' := [P_z (A_cf x 2)]) (st' := [P_z (A_cf x 2)]) P_i175_7 rfl (show P_aw _ _ _ 8 [P_z (A_cf x 2)] [P_z (A_cf x 2)] _ _ from ?_)
              refine P_aw_op (L' := [P_z (A_cf x 2)]) (st' := [P_z 1999, P_z (A_cf x 2)]) P_i175_8 (P_o_si (by decide)) (show P_aw _ _ _ 11 [P_z (A_cf x 2)] [P_z 1999, P_z (A_cf x 2)] _ _ from ?_)
              refine P_aw_icf P_i175_11 ⟨by omega, by omega⟩ ⟨by decide, by decide⟩ (P_ci_gtf (by omega)) (show P_aw _ _ _ 14 [P_z (A_cf x 2)] [] _ _ from ?_)
              refine P_aw_op (L' := [P_z (A_cf x 2)]) (st' := [P_z 1]) P_i175_14 rfl (show P_aw _ _ _ 15 [P_z (A_cf x 2)] [P_z 1] _ _ from ?_)
              refine P_aw_goto P_i175_15 (show P_aw _ _ _ 19 [P_z (A_cf x 2)] [P_z 1] _ _ from ?_)
              refine P_aw_end P_i175_19 rfl rfl (fun _ => rfl) rfl ?_
              show P_aw _ _ _ 16 [.ref (w.2.2 (15 + j.toNat))] [P_z 1] _ _
              refine P_aw_izf P_i18_16 ⟨by decide, by decide⟩ (P_ci_eqf (by omega)) (show P_aw _ _ _ 19 [.ref (w.2.2 (15 + j.toNat))] [] _ _ from ?_)
              refine P_aw_op (L' := [.ref (w.2.2 (15 + j.toNat))]) (st' := [P_z 1]) P_i18_19 rfl (show P_aw _ _ _ 20 [.ref (w.2.2 (15 + j.toNat))] [P_z 1] _ _ from ?_)
              refine P_aw_goto P_i18_20 (show P_aw _ _ _ 24 [.ref (w.2.2 (15 + j.toNat))] [P_z 1] _ _ from ?_)
              refine P_aw_end P_i18_24 rfl rfl (fun _ => rfl) rfl ?_
              show P_aw _ _ _ 11 [.ref (w.2.2 13), .ref (w.2.2 (15 + i.toNat)), .ref (w.2.2 (15 + j.toNat))] [P_z 1] _ _
              refine P_aw_izf P_i78_11 ⟨by decide, by decide⟩ (P_ci_eqf (by omega)) (show P_aw _ _ _ 14 [.ref (w.2.2 13), .ref (w.2.2 (15 + i.toNat)), .ref (w.2.2 (15 + j.toNat))] [] _ _ from ?_)
              refine P_aw_op (L' := [.ref (w.2.2 13), .ref (w.2.2 (15 + i.toNat)), .ref (w.2.2 (15 + j.toNat))]) (st' := [.ref (w.2.2 (15 + i.toNat))]) P_i78_14 rfl (show P_aw _ _ _ 15 [.ref (w.2.2 13), .ref (w.2.2 (15 + i.toNat)), .ref (w.2.2 (15 + j.toNat))] [.ref (w.2.2 (15 + i.toNat))] _ _ from ?_)
              have hg10 := A_ok_rg hoy
              refine P_aw_getv P_i78_15 (hw.c (by omega)).2 (hw.c (by omega)).1 rfl rfl ((hK.2.2 i 0 (by omega) (by omega) (by omega)).trans (hy 0)) (show P_aw _ _ _ 18 [.ref (w.2.2 13), .ref (w.2.2 (15 + i.toNat)), .ref (w.2.2 (15 + j.toNat))] [P_z (A_cf y 0)] _ _ from ?_)
              refine P_aw_op (L' := [.ref (w.2.2 13), .ref (w.2.2 (15 + i.toNat)), .ref (w.2.2 (15 + j.toNat))]) (st' := [.ref (w.2.2 (15 + j.toNat)), P_z (A_cf y 0)]) P_i78_18 rfl (show P_aw _ _ _ 19 [.ref (w.2.2 13), .ref (w.2.2 (15 + i.toNat)), .ref (w.2.2 (15 + j.toNat))] [.ref (w.2.2 (15 + j.toNat)), P_z (A_cf y 0)] _ _ from ?_)
              have hg11 := A_ok_rg hox
              refine P_aw_getv P_i78_19 (hw.c (by omega)).2 (hw.c (by omega)).1 rfl rfl ((hK.2.2 j 0 (by omega) (by omega) (by omega)).trans (hx 0)) (show P_aw _ _ _ 22 [.ref (w.2.2 13), .ref (w.2.2 (15 + i.toNat)), .ref (w.2.2 (15 + j.toNat))] [P_z (A_cf x 0), P_z (A_cf y 0)] _ _ from ?_)
              by_cases hc12 : (A_cf y 0) = (A_cf x 0)
              · refine P_aw_icf P_i78_22 ⟨by omega, by omega⟩ ⟨by omega, by omega⟩ (P_ci_nef (by omega)) (show P_aw _ _ _ 25 [.ref (w.2.2 13), .ref (w.2.2 (15 + i.toNat)), .ref (w.2.2 (15 + j.toNat))] [] _ _ from ?_)
                refine P_aw_op (L' := [.ref (w.2.2 13), .ref (w.2.2 (15 + i.toNat)), .ref (w.2.2 (15 + j.toNat))]) (st' := [.ref (w.2.2 (15 + i.toNat))]) P_i78_25 rfl (show P_aw _ _ _ 26 [.ref (w.2.2 13), .ref (w.2.2 (15 + i.toNat)), .ref (w.2.2 (15 + j.toNat))] [.ref (w.2.2 (15 + i.toNat))] _ _ from ?_)
                have hg13 := A_ok_rg hoy
                refine P_aw_getv P_i78_26 (hw.c (by omega)).2 (hw.c (by omega)).1 rfl rfl ((hK.2.2 i 2 (by omega) (by omega) (by omega)).trans (hy 2)) (show P_aw _ _ _ 29 [.ref (w.2.2 13), .ref (w.2.2 (15 + i.toNat)), .ref (w.2.2 (15 + j.toNat))] [P_z (A_cf y 2)] _ _ from ?_)
                refine P_aw_op (L' := [.ref (w.2.2 13), .ref (w.2.2 (15 + i.toNat)), .ref (w.2.2 (15 + j.toNat))]) (st' := [.ref (w.2.2 (15 + j.toNat)), P_z (A_cf y 2)]) P_i78_29 rfl (show P_aw _ _ _ 30 [.ref (w.2.2 13), .ref (w.2.2 (15 + i.toNat)), .ref (w.2.2 (15 + j.toNat))] [.ref (w.2.2 (15 + j.toNat)), P_z (A_cf y 2)] _ _ from ?_)
                have hg14 := A_ok_rg hox
                refine P_aw_getv P_i78_30 (hw.c (by omega)).2 (hw.c (by omega)).1 rfl rfl ((hK.2.2 j 2 (by omega) (by omega) (by omega)).trans (hx 2)) (show P_aw _ _ _ 33 [.ref (w.2.2 13), .ref (w.2.2 (15 + i.toNat)), .ref (w.2.2 (15 + j.toNat))] [P_z (A_cf x 2), P_z (A_cf y 2)] _ _ from ?_)
                by_cases hc15 : (A_cf y 2) = (A_cf x 2)
                · refine P_aw_ict P_i78_33 ⟨by omega, by omega⟩ ⟨by omega, by omega⟩ (P_ci_eqt (by omega)) (show P_aw _ _ _ 40 [.ref (w.2.2 13), .ref (w.2.2 (15 + i.toNat)), .ref (w.2.2 (15 + j.toNat))] [] _ _ from ?_)
                  refine P_aw_op (L' := [.ref (w.2.2 13), .ref (w.2.2 (15 + i.toNat)), .ref (w.2.2 (15 + j.toNat))]) (st' := [P_z 0]) P_i78_40 rfl (show P_aw _ _ _ 41 [.ref (w.2.2 13), .ref (w.2.2 (15 + i.toNat)), .ref (w.2.2 (15 + j.toNat))] [P_z 0] _ _ from ?_)
                  refine P_aw_end P_i78_41 rfl rfl (fun _ => rfl) rfl ?_
                  show P_aw _ _ _ 82 [.ref (w.2.2 13), P_z i, .ref (w.2.2 (15 + i.toNat)), P_z j] [P_z 0, .ref (w.2.2 13)] _ _
                  refine P_aw_izt P_i77_82 ⟨by decide, by decide⟩ (P_ci_eqt (by omega)) (show P_aw _ _ _ 89 [.ref (w.2.2 13), P_z i, .ref (w.2.2 (15 + i.toNat)), P_z j] [.ref (w.2.2 13)] _ _ from ?_)
                  refine P_aw_op (L' := [.ref (w.2.2 13), P_z i, .ref (w.2.2 (15 + i.toNat)), P_z j]) (st' := [P_z 0, .ref (w.2.2 13)]) P_i77_89 rfl (show P_aw _ _ _ 90 [.ref (w.2.2 13), P_z i, .ref (w.2.2 (15 + i.toNat)), P_z j] [P_z 0, .ref (w.2.2 13)] _ _ from ?_)
                  refine P_aw_put P_i77_90 (hw.2.1 13 (by decide)) (hw.s rfl) rfl rfl rfl (show P_aw _ _ _ 93 [.ref (w.2.2 13), P_z i, .ref (w.2.2 (15 + i.toNat)), P_z j] [] _ _ from ?_)
                  refine P_aw_op (L' := [.ref (w.2.2 13), P_z i, .ref (w.2.2 (15 + i.toNat)), P_z (j + 1)]) (st' := []) P_i77_93 (P_o_iinc rfl) (show P_aw _ _ _ 96 [.ref (w.2.2 13), P_z i, .ref (w.2.2 (15 + i.toNat)), P_z (j + 1)] [] _ _ from ?_)
                  refine P_aw_goto P_i77_96 (show P_aw _ _ _ 59 [.ref (w.2.2 13), P_z i, .ref (w.2.2 (15 + i.toNat)), P_z (j + 1)] [] _ _ from ?_)
                  have e : A_or v ((x :: P2).any (A_cxb y)) = A_or 0 (P2.any (A_cxb y)) := (by rw [List.any_cons]; first | (have e1 : v = 1 := (by omega); rw [e1, A_or_1, A_or_1]) | (rw [A_cxb_t (by unfold A_cx; omega), Bool.true_or, A_or_t, A_or_1]) | (have e0 : v = 0 := (by omega); rw [A_cxb_f (by unfold A_cx; omega), Bool.false_or, e0])); exact ih _ (P1 ++ [x]) P2 (j + 1) 0 (by rw [hcs]; simp) (by rw [hi]; simp) (by rw [hj]; simp) hlP P_u2_at (by omega) (A_kn_K A_kn_u hK) (fun σ' h1 h2 => q σ' (A_kn_tr A_kn_u h1) (h2.trans e.symm))
                · refine P_aw_icf P_i78_33 ⟨by omega, by omega⟩ ⟨by omega, by omega⟩ (P_ci_eqf (by omega)) (show P_aw _ _ _ 36 [.ref (w.2.2 13), .ref (w.2.2 (15 + i.toNat)), .ref (w.2.2 (15 + j.toNat))] [] _ _ from ?_)
                  refine P_aw_op (L' := [.ref (w.2.2 13), .ref (w.2.2 (15 + i.toNat)), .ref (w.2.2 (15 + j.toNat))]) (st' := [P_z 1]) P_i78_36 rfl (show P_aw _ _ _ 37 [.ref (w.2.2 13), .ref (w.2.2 (15 + i.toNat)), .ref (w.2.2 (15 + j.toNat))] [P_z 1] _ _ from ?_)
                  refine P_aw_goto P_i78_37 (show P_aw _ _ _ 41 [.ref (w.2.2 13), .ref (w.2.2 (15 + i.toNat)), .ref (w.2.2 (15 + j.toNat))] [P_z 1] _ _ from ?_)
                  refine P_aw_end P_i78_41 rfl rfl (fun _ => rfl) rfl ?_
                  show P_aw _ _ _ 82 [.ref (w.2.2 13), P_z i, .ref (w.2.2 (15 + i.toNat)), P_z j] [P_z 1, .ref (w.2.2 13)] _ _
                  refine P_aw_izf P_i77_82 ⟨by decide, by decide⟩ (P_ci_eqf (by omega)) (show P_aw _ _ _ 85 [.ref (w.2.2 13), P_z i, .ref (w.2.2 (15 + i.toNat)), P_z j] [.ref (w.2.2 13)] _ _ from ?_)
                  refine P_aw_op (L' := [.ref (w.2.2 13), P_z i, .ref (w.2.2 (15 + i.toNat)), P_z j]) (st' := [P_z 1, .ref (w.2.2 13)]) P_i77_85 rfl (show P_aw _ _ _ 86 [.ref (w.2.2 13), P_z i, .ref (w.2.2 (15 + i.toNat)), P_z j] [P_z 1, .ref (w.2.2 13)] _ _ from ?_)
                  refine P_aw_goto P_i77_86 (show P_aw _ _ _ 90 [.ref (w.2.2 13), P_z i, .ref (w.2.2 (15 + i.toNat)), P_z j] [P_z 1, .ref (w.2.2 13)] _ _ from ?_)
                  refine P_aw_put P_i77_90 (hw.2.1 13 (by decide)) (hw.s rfl) rfl rfl rfl (show P_aw _ _ _ 93 [.ref (w.2.2 13), P_z i, .ref (w.2.2 (15 + i.toNat)), P_z j] [] _ _ from ?_)
                  refine P_aw_op (L' := [.ref (w.2.2 13), P_z i, .ref (w.2.2 (15 + i.toNat)), P_z (j + 1)]) (st' := []) P_i77_93 (P_o_iinc rfl) (show P_aw _ _ _ 96 [.ref (w.2.2 13), P_z i, .ref (w.2.2 (15 + i.toNat)), P_z (j + 1)] [] _ _ from ?_)
                  refine P_aw_goto P_i77_96 (show P_aw _ _ _ 59 [.ref (w.2.2 13), P_z i, .ref (w.2.2 (15 + i.toNat)), P_z (j + 1)] [] _ _ from ?_)
                  have e : A_or v ((x :: P2).any (A_cxb y)) = A_or 1 (P2.any (A_cxb y)) := (by rw [List.any_cons]; first | (have e1 : v = 1 := (by omega); rw [e1, A_or_1, A_or_1]) | (rw [A_cxb_t (by unfold A_cx; omega), Bool.true_or, A_or_t, A_or_1]) | (have e0 : v = 0 := (by omega); rw [A_cxb_f (by unfold A_cx; omega), Bool.false_or, e0])); exact ih _ (P1 ++ [x]) P2 (j + 1) 1 (by rw [hcs]; simp) (by rw [hi]; simp) (by rw [hj]; simp) hlP P_u2_at (by omega) (A_kn_K A_kn_u hK) (fun σ' h1 h2 => q σ' (A_kn_tr A_kn_u h1) (h2.trans e.symm))
              · refine P_aw_ict P_i78_22 ⟨by omega, by omega⟩ ⟨by omega, by omega⟩ (P_ci_net (by omega)) (show P_aw _ _ _ 40 [.ref (w.2.2 13), .ref (w.2.2 (15 + i.toNat)), .ref (w.2.2 (15 + j.toNat))] [] _ _ from ?_)
                refine P_aw_op (L' := [.ref (w.2.2 13), .ref (w.2.2 (15 + i.toNat)), .ref (w.2.2 (15 + j.toNat))]) (st' := [P_z 0]) P_i78_40 rfl (show P_aw _ _ _ 41 [.ref (w.2.2 13), .ref (w.2.2 (15 + i.toNat)), .ref (w.2.2 (15 + j.toNat))] [P_z 0] _ _ from ?_)
                refine P_aw_end P_i78_41 rfl rfl (fun _ => rfl) rfl ?_
                show P_aw _ _ _ 82 [.ref (w.2.2 13), P_z i, .ref (w.2.2 (15 + i.toNat)), P_z j] [P_z 0, .ref (w.2.2 13)] _ _
                refine P_aw_izt P_i77_82 ⟨by decide, by decide⟩ (P_ci_eqt (by omega)) (show P_aw _ _ _ 89 [.ref (w.2.2 13), P_z i, .ref (w.2.2 (15 + i.toNat)), P_z j] [.ref (w.2.2 13)] _ _ from ?_)
                refine P_aw_op (L' := [.ref (w.2.2 13), P_z i, .ref (w.2.2 (15 + i.toNat)), P_z j]) (st' := [P_z 0, .ref (w.2.2 13)]) P_i77_89 rfl (show P_aw _ _ _ 90 [.ref (w.2.2 13), P_z i, .ref (w.2.2 (15 + i.toNat)), P_z j] [P_z 0, .ref (w.2.2 13)] _ _ from ?_)
                refine P_aw_put P_i77_90 (hw.2.1 13 (by decide)) (hw.s rfl) rfl rfl rfl (show P_aw _ _ _ 93 [.ref (w.2.2 13), P_z i, .ref (w.2.2 (15 + i.toNat)), P_z j] [] _ _ from ?_)
                refine P_aw_op (L' := [.ref (w.2.2 13), P_z i, .ref (w.2.2 (15 + i.toNat)), P_z (j + 1)]) (st' := []) P_i77_93 (P_o_iinc rfl) (show P_aw _ _ _ 96 [.ref (w.2.2 13), P_z i, .ref (w.2.2 (15 + i.toNat)), P_z (j + 1)] [] _ _ from ?_)
                refine P_aw_goto P_i77_96 (show P_aw _ _ _ 59 [.ref (w.2.2 13), P_z i, .ref (w.2.2 (15 + i.toNat)), P_z (j + 1)] [] _ _ from ?_)
                have e : A_or v ((x :: P2).any (A_cxb y)) = A_or 0 (P2.any (A_cxb y)) := (by rw [List.any_cons]; first | (have e1 : v = 1 := (by omega); rw [e1, A_or_1, A_or_1]) | (rw [A_cxb_t (by unfold A_cx; omega), Bool.true_or, A_or_t, A_or_1]) | (have e0 : v = 0 := (by omega); rw [A_cxb_f (by unfold A_cx; omega), Bool.false_or, e0])); exact ih _ (P1 ++ [x]) P2 (j + 1) 0 (by rw [hcs]; simp) (by rw [hi]; simp) (by rw [hj]; simp) hlP P_u2_at (by omega) (A_kn_K A_kn_u hK) (fun σ' h1 h2 => q σ' (A_kn_tr A_kn_u h1) (h2.trans e.symm))
          · refine P_aw_ict P_i18_6 ⟨by omega, by omega⟩ ⟨by decide, by decide⟩ (P_ci_net (by omega)) (show P_aw _ _ _ 23 [.ref (w.2.2 (15 + j.toNat))] [] _ _ from ?_)
            refine P_aw_op (L' := [.ref (w.2.2 (15 + j.toNat))]) (st' := [P_z 0]) P_i18_23 rfl (show P_aw _ _ _ 24 [.ref (w.2.2 (15 + j.toNat))] [P_z 0] _ _ from ?_)
            refine P_aw_end P_i18_24 rfl rfl (fun _ => rfl) rfl ?_
            show P_aw _ _ _ 11 [.ref (w.2.2 13), .ref (w.2.2 (15 + i.toNat)), .ref (w.2.2 (15 + j.toNat))] [P_z 0] _ _
            refine P_aw_izt P_i78_11 ⟨by decide, by decide⟩ (P_ci_eqt (by omega)) (show P_aw _ _ _ 40 [.ref (w.2.2 13), .ref (w.2.2 (15 + i.toNat)), .ref (w.2.2 (15 + j.toNat))] [] _ _ from ?_)
            refine P_aw_op (L' := [.ref (w.2.2 13), .ref (w.2.2 (15 + i.toNat)), .ref (w.2.2 (15 + j.toNat))]) (st' := [P_z 0]) P_i78_40 rfl (show P_aw _ _ _ 41 [.ref (w.2.2 13), .ref (w.2.2 (15 + i.toNat)), .ref (w.2.2 (15 + j.toNat))] [P_z 0] _ _ from ?_)
            refine P_aw_end P_i78_41 rfl rfl (fun _ => rfl) rfl ?_
            show P_aw _ _ _ 82 [.ref (w.2.2 13), P_z i, .ref (w.2.2 (15 + i.toNat)), P_z j] [P_z 0, .ref (w.2.2 13)] _ _
            refine P_aw_izt P_i77_82 ⟨by decide, by decide⟩ (P_ci_eqt (by omega)) (show P_aw _ _ _ 89 [.ref (w.2.2 13), P_z i, .ref (w.2.2 (15 + i.toNat)), P_z j] [.ref (w.2.2 13)] _ _ from ?_)
            refine P_aw_op (L' := [.ref (w.2.2 13), P_z i, .ref (w.2.2 (15 + i.toNat)), P_z j]) (st' := [P_z 0, .ref (w.2.2 13)]) P_i77_89 rfl (show P_aw _ _ _ 90 [.ref (w.2.2 13), P_z i, .ref (w.2.2 (15 + i.toNat)), P_z j] [P_z 0, .ref (w.2.2 13)] _ _ from ?_)
            refine P_aw_put P_i77_90 (hw.2.1 13 (by decide)) (hw.s rfl) rfl rfl rfl (show P_aw _ _ _ 93 [.ref (w.2.2 13), P_z i, .ref (w.2.2 (15 + i.toNat)), P_z j] [] _ _ from ?_)
            refine P_aw_op (L' := [.ref (w.2.2 13), P_z i, .ref (w.2.2 (15 + i.toNat)), P_z (j + 1)]) (st' := []) P_i77_93 (P_o_iinc rfl) (show P_aw _ _ _ 96 [.ref (w.2.2 13), P_z i, .ref (w.2.2 (15 + i.toNat)), P_z (j + 1)] [] _ _ from ?_)
            refine P_aw_goto P_i77_96 (show P_aw _ _ _ 59 [.ref (w.2.2 13), P_z i, .ref (w.2.2 (15 + i.toNat)), P_z (j + 1)] [] _ _ from ?_)
            have e : A_or v ((x :: P2).any (A_cxb y)) = A_or 0 (P2.any (A_cxb y)) := (by rw [List.any_cons]; first | (have e1 : v = 1 := (by omega); rw [e1, A_or_1, A_or_1]) | (rw [A_cxb_t (by unfold A_cx; omega), Bool.true_or, A_or_t, A_or_1]) | (have e0 : v = 0 := (by omega); rw [A_cxb_f (by unfold A_cx; omega), Bool.false_or, e0])); exact ih _ (P1 ++ [x]) P2 (j + 1) 0 (by rw [hcs]; simp) (by rw [hi]; simp) (by rw [hj]; simp) hlP P_u2_at (by omega) (A_kn_K A_kn_u hK) (fun σ' h1 h2 => q σ' (A_kn_tr A_kn_u h1) (h2.trans e.symm))
      · refine P_aw_ict P_i18_6 ⟨by omega, by omega⟩ ⟨by decide, by decide⟩ (P_ci_net (by omega)) (show P_aw _ _ _ 23 [.ref (w.2.2 (15 + i.toNat))] [] _ _ from ?_)
        refine P_aw_op (L' := [.ref (w.2.2 (15 + i.toNat))]) (st' := [P_z 0]) P_i18_23 rfl (show P_aw _ _ _ 24 [.ref (w.2.2 (15 + i.toNat))] [P_z 0] _ _ from ?_)
        refine P_aw_end P_i18_24 rfl rfl (fun _ => rfl) rfl ?_
        show P_aw _ _ _ 4 [.ref (w.2.2 13), .ref (w.2.2 (15 + i.toNat)), .ref (w.2.2 (15 + j.toNat))] [P_z 0] _ _
        refine P_aw_izt P_i78_4 ⟨by decide, by decide⟩ (P_ci_eqt (by omega)) (show P_aw _ _ _ 40 [.ref (w.2.2 13), .ref (w.2.2 (15 + i.toNat)), .ref (w.2.2 (15 + j.toNat))] [] _ _ from ?_)
        refine P_aw_op (L' := [.ref (w.2.2 13), .ref (w.2.2 (15 + i.toNat)), .ref (w.2.2 (15 + j.toNat))]) (st' := [P_z 0]) P_i78_40 rfl (show P_aw _ _ _ 41 [.ref (w.2.2 13), .ref (w.2.2 (15 + i.toNat)), .ref (w.2.2 (15 + j.toNat))] [P_z 0] _ _ from ?_)
        refine P_aw_end P_i78_41 rfl rfl (fun _ => rfl) rfl ?_
        show P_aw _ _ _ 82 [.ref (w.2.2 13), P_z i, .ref (w.2.2 (15 + i.toNat)), P_z j] [P_z 0, .ref (w.2.2 13)] _ _
        refine P_aw_izt P_i77_82 ⟨by decide, by decide⟩ (P_ci_eqt (by omega)) (show P_aw _ _ _ 89 [.ref (w.2.2 13), P_z i, .ref (w.2.2 (15 + i.toNat)), P_z j] [.ref (w.2.2 13)] _ _ from ?_)
        refine P_aw_op (L' := [.ref (w.2.2 13), P_z i, .ref (w.2.2 (15 + i.toNat)), P_z j]) (st' := [P_z 0, .ref (w.2.2 13)]) P_i77_89 rfl (show P_aw _ _ _ 90 [.ref (w.2.2 13), P_z i, .ref (w.2.2 (15 + i.toNat)), P_z j] [P_z 0, .ref (w.2.2 13)] _ _ from ?_)
        refine P_aw_put P_i77_90 (hw.2.1 13 (by decide)) (hw.s rfl) rfl rfl rfl (show P_aw _ _ _ 93 [.ref (w.2.2 13), P_z i, .ref (w.2.2 (15 + i.toNat)), P_z j] [] _ _ from ?_)
        refine P_aw_op (L' := [.ref (w.2.2 13), P_z i, .ref (w.2.2 (15 + i.toNat)), P_z (j + 1)]) (st' := []) P_i77_93 (P_o_iinc rfl) (show P_aw _ _ _ 96 [.ref (w.2.2 13), P_z i, .ref (w.2.2 (15 + i.toNat)), P_z (j + 1)] [] _ _ from ?_)
        refine P_aw_goto P_i77_96 (show P_aw _ _ _ 59 [.ref (w.2.2 13), P_z i, .ref (w.2.2 (15 + i.toNat)), P_z (j + 1)] [] _ _ from ?_)
        have e : A_or v ((x :: P2).any (A_cxb y)) = A_or 0 (P2.any (A_cxb y)) := (by rw [List.any_cons]; first | (have e1 : v = 1 := (by omega); rw [e1, A_or_1, A_or_1]) | (rw [A_cxb_t (by unfold A_cx; omega), Bool.true_or, A_or_t, A_or_1]) | (have e0 : v = 0 := (by omega); rw [A_cxb_f (by unfold A_cx; omega), Bool.false_or, e0])); exact ih _ (P1 ++ [x]) P2 (j + 1) 0 (by rw [hcs]; simp) (by rw [hi]; simp) (by rw [hj]; simp) hlP P_u2_at (by omega) (A_kn_K A_kn_u hK) (fun σ' h1 h2 => q σ' (A_kn_tr A_kn_u h1) (h2.trans e.symm))
    · refine P_aw_izt P_i77_69 ⟨by omega, by omega⟩ (P_ci_net (by omega)) (show P_aw _ _ _ 85 [.ref (w.2.2 13), P_z i, .ref (w.2.2 (15 + i.toNat)), P_z j] [.ref (w.2.2 13)] _ _ from ?_)
      refine P_aw_op (L' := [.ref (w.2.2 13), P_z i, .ref (w.2.2 (15 + i.toNat)), P_z j]) (st' := [P_z 1, .ref (w.2.2 13)]) P_i77_85 rfl (show P_aw _ _ _ 86 [.ref (w.2.2 13), P_z i, .ref (w.2.2 (15 + i.toNat)), P_z j] [P_z 1, .ref (w.2.2 13)] _ _ from ?_)
      refine P_aw_goto P_i77_86 (show P_aw _ _ _ 90 [.ref (w.2.2 13), P_z i, .ref (w.2.2 (15 + i.toNat)), P_z j] [P_z 1, .ref (w.2.2 13)] _ _ from ?_)
      refine P_aw_put P_i77_90 (hw.2.1 13 (by decide)) (hw.s rfl) rfl rfl rfl (show P_aw _ _ _ 93 [.ref (w.2.2 13), P_z i, .ref (w.2.2 (15 + i.toNat)), P_z j] [] _ _ from ?_)
      refine P_aw_op (L' := [.ref (w.2.2 13), P_z i, .ref (w.2.2 (15 + i.toNat)), P_z (j + 1)]) (st' := []) P_i77_93 (P_o_iinc rfl) (show P_aw _ _ _ 96 [.ref (w.2.2 13), P_z i, .ref (w.2.2 (15 + i.toNat)), P_z (j + 1)] [] _ _ from ?_)
      refine P_aw_goto P_i77_96 (show P_aw _ _ _ 59 [.ref (w.2.2 13), P_z i, .ref (w.2.2 (15 + i.toNat)), P_z (j + 1)] [] _ _ from ?_)
      have e : A_or v ((x :: P2).any (A_cxb y)) = A_or 1 (P2.any (A_cxb y)) := (by rw [List.any_cons]; first | (have e1 : v = 1 := (by omega); rw [e1, A_or_1, A_or_1]) | (rw [A_cxb_t (by unfold A_cx; omega), Bool.true_or, A_or_t, A_or_1]) | (have e0 : v = 0 := (by omega); rw [A_cxb_f (by unfold A_cx; omega), Bool.false_or, e0])); exact ih _ (P1 ++ [x]) P2 (j + 1) 1 (by rw [hcs]; simp) (by rw [hi]; simp) (by rw [hj]; simp) hlP P_u2_at (by omega) (A_kn_K A_kn_u hK) (fun σ' h1 h2 => q σ' (A_kn_tr A_kn_u h1) (h2.trans e.symm))

theorem s_nvo {w : P_Lw} (hw : P_Cw w) {d : Nat} {Q : P_R → P_A → Prop} {ns : Int} {cs : List A_cd} (hok : A_oks ns cs) : ∀ (n : Nat) (σ : P_A) (A B : List A_cd) (i v : Int), cs = A ++ B → i = ((A.length : Nat) : Int) → B.length = n → σ 13 5 = v → (0 ≤ v ∧ v ≤ 1) → A_KL σ cs → (∀ σ', A_kn σ σ' → σ' 13 5 = A_or v (A_nv A B) → Q (.inl (some (P_z (A_or v (A_nv A B))))) σ') → P_aw w (d + 3) 77 11 [.ref (w.2.2 13), P_z i, P_un, P_un] [] σ Q := by
  intro n
  induction n with
  | zero =>
    intro σ A B i v hcs hi hB hv hv01 hK q
    obtain rfl : B = [] := List.length_eq_zero_iff.mp hB
    have hl : i = (cs.length : Int) := by rw [hcs, hi]; simp
    have hz := hK.2.1
    have e : A_or v (A_nv A []) = v := A_or_f hv01
    refine P_aw_op (L' := [.ref (w.2.2 13), P_z i, P_un, P_un]) (st' := [P_z i]) P_i77_11 rfl (show P_aw _ _ _ 12 [.ref (w.2.2 13), P_z i, P_un, P_un] [P_z i] _ _ from ?_)
    refine P_aw_op (L' := [.ref (w.2.2 13), P_z i, P_un, P_un]) (st' := [.ref (w.2.2 13), P_z i]) P_i77_12 rfl (show P_aw _ _ _ 13 [.ref (w.2.2 13), P_z i, P_un, P_un] [.ref (w.2.2 13), P_z i] _ _ from ?_)
    have hg1 := hK.2.1
    refine P_aw_getv P_i77_13 (hw.2.1 13 (by decide)) (hw.s rfl) rfl rfl (hK.1) (show P_aw _ _ _ 16 [.ref (w.2.2 13), P_z i, P_un, P_un] [P_z (cs.length : Int), P_z i] _ _ from ?_)
    refine P_aw_ict P_i77_16 ⟨by omega, by omega⟩ ⟨by omega, by omega⟩ (P_ci_get (by omega)) (show P_aw _ _ _ 105 [.ref (w.2.2 13), P_z i, P_un, P_un] [] _ _ from ?_)
    refine P_aw_op (L' := [.ref (w.2.2 13), P_z i, P_un, P_un]) (st' := [.ref (w.2.2 13)]) P_i77_105 rfl (show P_aw _ _ _ 106 [.ref (w.2.2 13), P_z i, P_un, P_un] [.ref (w.2.2 13)] _ _ from ?_)
    refine P_aw_getv P_i77_106 (hw.2.1 13 (by decide)) (hw.s rfl) rfl rfl (hv) (show P_aw _ _ _ 109 [.ref (w.2.2 13), P_z i, P_un, P_un] [P_z v] _ _ from ?_)
    refine P_aw_end P_i77_109 rfl rfl (fun _ => rfl) (P_ret_b (by omega)) ?_
    exact P_qz e.symm rfl (q σ A_kn_rf (by rw [hv, e]))
  | succ n ih =>
    intro σ A B i v hcs hi hB hv hv01 hK q
    obtain ⟨y, B, rfl⟩ : ∃ x B', B = x :: B' := by
      cases B with
      | nil => exact absurd hB (by simp)
      | cons x B => exact ⟨x, B, rfl⟩
    have hlB : B.length = n := Nat.succ.inj hB
    have hl : (cs.length : Int) = i + 1 + (n : Int) := by rw [hcs, hi, A_len, hlB]
    have hz := hK.2.1
    have hy : ∀ f, A_lc cs i f = A_cf y f := fun f => by rw [hcs]; exact A_lc_mid hi f
    have hoy : A_ok ns y := hok y (by rw [hcs]; exact A_mem)
    have hoky := A_ok_rg hoy
    refine P_aw_op (L' := [.ref (w.2.2 13), P_z i, P_un, P_un]) (st' := [P_z i]) P_i77_11 rfl (show P_aw _ _ _ 12 [.ref (w.2.2 13), P_z i, P_un, P_un] [P_z i] _ _ from ?_)
    refine P_aw_op (L' := [.ref (w.2.2 13), P_z i, P_un, P_un]) (st' := [.ref (w.2.2 13), P_z i]) P_i77_12 rfl (show P_aw _ _ _ 13 [.ref (w.2.2 13), P_z i, P_un, P_un] [.ref (w.2.2 13), P_z i] _ _ from ?_)
    have hg1 := hK.2.1
    refine P_aw_getv P_i77_13 (hw.2.1 13 (by decide)) (hw.s rfl) rfl rfl (hK.1) (show P_aw _ _ _ 16 [.ref (w.2.2 13), P_z i, P_un, P_un] [P_z (cs.length : Int), P_z i] _ _ from ?_)
    refine P_aw_icf P_i77_16 ⟨by omega, by omega⟩ ⟨by omega, by omega⟩ (P_ci_gef (by omega)) (show P_aw _ _ _ 19 [.ref (w.2.2 13), P_z i, P_un, P_un] [] _ _ from ?_)
    refine P_aw_op (L' := [.ref (w.2.2 13), P_z i, P_un, P_un]) (st' := [.ref (w.2.2 13)]) P_i77_19 rfl (show P_aw _ _ _ 20 [.ref (w.2.2 13), P_z i, P_un, P_un] [.ref (w.2.2 13)] _ _ from ?_)
    refine P_aw_op (L' := [.ref (w.2.2 13), P_z i, P_un, P_un]) (st' := [P_z i, .ref (w.2.2 13)]) P_i77_20 rfl (show P_aw _ _ _ 21 [.ref (w.2.2 13), P_z i, P_un, P_un] [P_z i, .ref (w.2.2 13)] _ _ from ?_)
    refine P_aw_call P_i77_21 rfl rfl (fun _ => rfl) rfl rfl rfl rfl (y2 := 59) (as := [.ref (w.2.2 13), P_z i]) (r0 := []) (P_inv_v (hw.2.1 13 (by decide)) (hw.s rfl) rfl rfl) (Nat.le_of_ble_eq_true rfl) (by decide) rfl (Nat.le_of_ble_eq_true rfl) (show P_aw _ _ _ 0 [.ref (w.2.2 13), P_z i, P_un] [] _ _ from ?_)
    refine P_aw_op (L' := [.ref (w.2.2 13), P_z i, P_un]) (st' := [P_z i]) P_i59_0 rfl (show P_aw _ _ _ 1 [.ref (w.2.2 13), P_z i, P_un] [P_z i] _ _ from ?_)
    refine P_aw_izf P_i59_1 ⟨by omega, by omega⟩ (P_ci_ltf (by omega)) (show P_aw _ _ _ 4 [.ref (w.2.2 13), P_z i, P_un] [] _ _ from ?_)
    refine P_aw_op (L' := [.ref (w.2.2 13), P_z i, P_un]) (st' := [P_z i]) P_i59_4 rfl (show P_aw _ _ _ 5 [.ref (w.2.2 13), P_z i, P_un] [P_z i] _ _ from ?_)
    refine P_aw_op (L' := [.ref (w.2.2 13), P_z i, P_un]) (st' := [.ref (w.2.2 13), P_z i]) P_i59_5 rfl (show P_aw _ _ _ 6 [.ref (w.2.2 13), P_z i, P_un] [.ref (w.2.2 13), P_z i] _ _ from ?_)
    refine P_aw_getR P_i59_6 (hw.2.1 13 (by decide)) (hw.s rfl) rfl rfl (show P_aw _ _ _ 9 [.ref (w.2.2 13), P_z i, P_un] [.ref (w.2.2 14), P_z i] _ _ from ?_)
    refine P_aw_clen P_i59_9 (hw.2.1 14 (by decide)) (hw.s rfl) rfl (show P_aw _ _ _ 10 [.ref (w.2.2 13), P_z i, P_un] [P_z 12, P_z i] _ _ from ?_)
    refine P_aw_ict P_i59_10 ⟨by omega, by omega⟩ ⟨by decide, by decide⟩ (P_ci_ltt (by omega)) (show P_aw _ _ _ 18 [.ref (w.2.2 13), P_z i, P_un] [] _ _ from ?_)
    refine P_aw_op (L' := [.ref (w.2.2 13), P_z i, P_un]) (st' := [.ref (w.2.2 13)]) P_i59_18 rfl (show P_aw _ _ _ 19 [.ref (w.2.2 13), P_z i, P_un] [.ref (w.2.2 13)] _ _ from ?_)
    refine P_aw_getR P_i59_19 (hw.2.1 13 (by decide)) (hw.s rfl) rfl rfl (show P_aw _ _ _ 22 [.ref (w.2.2 13), P_z i, P_un] [.ref (w.2.2 14)] _ _ from ?_)
    refine P_aw_op (L' := [.ref (w.2.2 13), P_z i, P_un]) (st' := [P_z i, .ref (w.2.2 14)]) P_i59_22 rfl (show P_aw _ _ _ 23 [.ref (w.2.2 13), P_z i, P_un] [P_z i, .ref (w.2.2 14)] _ _ from ?_)
    refine P_aw_cld P_i59_23 (hw.2.1 14 (by decide)) (hw.s rfl) (by decide) (by omega) (P_c12 (by omega)) (by decide) (show P_aw _ _ _ 24 [.ref (w.2.2 13), P_z i, P_un] [.ref (w.2.2 (15 + i.toNat))] _ _ from ?_)
    refine P_aw_op (L' := [.ref (w.2.2 13), P_z i, .ref (w.2.2 (15 + i.toNat))]) (st' := []) P_i59_24 rfl (show P_aw _ _ _ 25 [.ref (w.2.2 13), P_z i, .ref (w.2.2 (15 + i.toNat))] [] _ _ from ?_)
    refine P_aw_op (L' := [.ref (w.2.2 13), P_z i, .ref (w.2.2 (15 + i.toNat))]) (st' := [.ref (w.2.2 (15 + i.toNat))]) P_i59_25 rfl (show P_aw _ _ _ 26 [.ref (w.2.2 13), P_z i, .ref (w.2.2 (15 + i.toNat))] [.ref (w.2.2 (15 + i.toNat))] _ _ from ?_)
    refine P_aw_brt P_i59_26 rfl (show P_aw _ _ _ 36 [.ref (w.2.2 13), P_z i, .ref (w.2.2 (15 + i.toNat))] [] _ _ from ?_)
    refine P_aw_op (L' := [.ref (w.2.2 13), P_z i, .ref (w.2.2 (15 + i.toNat))]) (st' := [.ref (w.2.2 (15 + i.toNat))]) P_i59_36 rfl (show P_aw _ _ _ 37 [.ref (w.2.2 13), P_z i, .ref (w.2.2 (15 + i.toNat))] [.ref (w.2.2 (15 + i.toNat))] _ _ from ?_)
    refine P_aw_end P_i59_37 rfl rfl (fun _ => rfl) rfl ?_
    show P_aw _ _ _ 24 [.ref (w.2.2 13), P_z i, P_un, P_un] [.ref (w.2.2 (15 + i.toNat))] _ _
    refine P_aw_op (L' := [.ref (w.2.2 13), P_z i, .ref (w.2.2 (15 + i.toNat)), P_un]) (st' := []) P_i77_24 rfl (show P_aw _ _ _ 25 [.ref (w.2.2 13), P_z i, .ref (w.2.2 (15 + i.toNat)), P_un] [] _ _ from ?_)
    refine P_aw_op (L' := [.ref (w.2.2 13), P_z i, .ref (w.2.2 (15 + i.toNat)), P_un]) (st' := [.ref (w.2.2 13)]) P_i77_25 rfl (show P_aw _ _ _ 26 [.ref (w.2.2 13), P_z i, .ref (w.2.2 (15 + i.toNat)), P_un] [.ref (w.2.2 13)] _ _ from ?_)
    refine P_aw_op (L' := [.ref (w.2.2 13), P_z i, .ref (w.2.2 (15 + i.toNat)), P_un]) (st' := [.ref (w.2.2 13), .ref (w.2.2 13)]) P_i77_26 rfl (show P_aw _ _ _ 27 [.ref (w.2.2 13), P_z i, .ref (w.2.2 (15 + i.toNat)), P_un] [.ref (w.2.2 13), .ref (w.2.2 13)] _ _ from ?_)
    refine P_aw_getv P_i77_27 (hw.2.1 13 (by decide)) (hw.s rfl) rfl rfl (hv) (show P_aw _ _ _ 30 [.ref (w.2.2 13), P_z i, .ref (w.2.2 (15 + i.toNat)), P_un] [P_z v, .ref (w.2.2 13)] _ _ from ?_)
    by_cases hc2 : v = 0
    · refine P_aw_izf P_i77_30 ⟨by omega, by omega⟩ (P_ci_nef (by omega)) (show P_aw _ _ _ 33 [.ref (w.2.2 13), P_z i, .ref (w.2.2 (15 + i.toNat)), P_un] [.ref (w.2.2 13)] _ _ from ?_)
      refine P_aw_op (L' := [.ref (w.2.2 13), P_z i, .ref (w.2.2 (15 + i.toNat)), P_un]) (st' := [.ref (w.2.2 (15 + i.toNat)), .ref (w.2.2 13)]) P_i77_33 rfl (show P_aw _ _ _ 34 [.ref (w.2.2 13), P_z i, .ref (w.2.2 (15 + i.toNat)), P_un] [.ref (w.2.2 (15 + i.toNat)), .ref (w.2.2 13)] _ _ from ?_)
      have hg3 := A_ok_rg hoy
      refine P_aw_getv P_i77_34 (hw.c (by omega)).2 (hw.c (by omega)).1 rfl rfl ((hK.2.2 i 1 (by omega) (by omega) (by omega)).trans (hy 1)) (show P_aw _ _ _ 37 [.ref (w.2.2 13), P_z i, .ref (w.2.2 (15 + i.toNat)), P_un] [P_z (A_cf y 1), .ref (w.2.2 13)] _ _ from ?_)
      refine P_aw_op (L' := [.ref (w.2.2 13), P_z i, .ref (w.2.2 (15 + i.toNat)), P_un]) (st' := [P_z 9, P_z (A_cf y 1), .ref (w.2.2 13)]) P_i77_37 (P_o_bi (by decide)) (show P_aw _ _ _ 39 [.ref (w.2.2 13), P_z i, .ref (w.2.2 (15 + i.toNat)), P_un] [P_z 9, P_z (A_cf y 1), .ref (w.2.2 13)] _ _ from ?_)
      by_cases hc4 : (A_cf y 1) = 9
      · refine P_aw_ict P_i77_39 ⟨by omega, by omega⟩ ⟨by decide, by decide⟩ (P_ci_eqt (by omega)) (show P_aw _ _ _ 53 [.ref (w.2.2 13), P_z i, .ref (w.2.2 (15 + i.toNat)), P_un] [.ref (w.2.2 13)] _ _ from ?_)
        refine P_aw_op (L' := [.ref (w.2.2 13), P_z i, .ref (w.2.2 (15 + i.toNat)), P_un]) (st' := [P_z 0, .ref (w.2.2 13)]) P_i77_53 rfl (show P_aw _ _ _ 54 [.ref (w.2.2 13), P_z i, .ref (w.2.2 (15 + i.toNat)), P_un] [P_z 0, .ref (w.2.2 13)] _ _ from ?_)
        refine P_aw_put P_i77_54 (hw.2.1 13 (by decide)) (hw.s rfl) rfl rfl rfl (show P_aw _ _ _ 57 [.ref (w.2.2 13), P_z i, .ref (w.2.2 (15 + i.toNat)), P_un] [] _ _ from ?_)
        refine P_aw_op (L' := [.ref (w.2.2 13), P_z i, .ref (w.2.2 (15 + i.toNat)), P_un]) (st' := [P_z 0]) P_i77_57 rfl (show P_aw _ _ _ 58 [.ref (w.2.2 13), P_z i, .ref (w.2.2 (15 + i.toNat)), P_un] [P_z 0] _ _ from ?_)
        refine P_aw_op (L' := [.ref (w.2.2 13), P_z i, .ref (w.2.2 (15 + i.toNat)), P_z 0]) (st' := []) P_i77_58 rfl (show P_aw _ _ _ 59 [.ref (w.2.2 13), P_z i, .ref (w.2.2 (15 + i.toNat)), P_z 0] [] _ _ from ?_)
        have eo : A_or v (A_odd y) = 0 := (by first | (have e1 : v = 1 := (by omega); rw [e1, A_or_1]) | (rw [show A_odd y = true from decide_eq_true (by omega), A_or_t]) | (have e0 : v = 0 := (by omega); rw [show A_odd y = false from decide_eq_false (by omega), e0]; rfl))
        refine s_nvl hw (y := y) (B := B) hok A.length _ [] A 0 0 hcs hi rfl rfl P_u2_at (by omega) (A_kn_K A_kn_u hK) (fun σ2 k1 k2 => ?_)
        refine P_aw_op (L' := [.ref (w.2.2 13), P_z (i + 1), .ref (w.2.2 (15 + i.toNat)), P_z i]) (st' := []) P_i77_99 (P_o_iinc rfl) (show P_aw _ _ _ 102 [.ref (w.2.2 13), P_z (i + 1), .ref (w.2.2 (15 + i.toNat)), P_z i] [] _ _ from ?_)
        refine P_aw_goto P_i77_102 (show P_aw _ _ _ 11 [.ref (w.2.2 13), P_z (i + 1), P_un, P_un] [] _ _ from ?_)
        have ev : σ2 13 5 = A_or v (A_odd y || A.any (A_cxb y)) := (by rw [k2, ← A_or_or, eo]); exact ih σ2 (A ++ [y]) B (i + 1) _ (by rw [hcs]; exact A_app) (by rw [hi]; simp) hlB ev A_or_rg (A_kn_K (A_kn_tr A_kn_u k1) hK) (fun σ' h1 h2 => by have e3 : A_or (A_or v (A_odd y || A.any (A_cxb y))) (A_nv (A ++ [y]) B) = A_or v (A_nv A (y :: B)) := A_or_or; rw [e3] at h2 ⊢; exact q σ' (A_kn_tr (A_kn_tr A_kn_u k1) h1) h2)
      · refine P_aw_icf P_i77_39 ⟨by omega, by omega⟩ ⟨by decide, by decide⟩ (P_ci_eqf (by omega)) (show P_aw _ _ _ 42 [.ref (w.2.2 13), P_z i, .ref (w.2.2 (15 + i.toNat)), P_un] [.ref (w.2.2 13)] _ _ from ?_)
        refine P_aw_op (L' := [.ref (w.2.2 13), P_z i, .ref (w.2.2 (15 + i.toNat)), P_un]) (st' := [.ref (w.2.2 (15 + i.toNat)), .ref (w.2.2 13)]) P_i77_42 rfl (show P_aw _ _ _ 43 [.ref (w.2.2 13), P_z i, .ref (w.2.2 (15 + i.toNat)), P_un] [.ref (w.2.2 (15 + i.toNat)), .ref (w.2.2 13)] _ _ from ?_)
        refine P_aw_call P_i77_43 rfl rfl (fun _ => rfl) rfl rfl rfl rfl (y2 := 16) (as := [.ref (w.2.2 (15 + i.toNat))]) (r0 := [.ref (w.2.2 13)]) (P_inv_v (hw.c (by omega)).2 (hw.c (by omega)).1 rfl rfl) (Nat.le_of_ble_eq_true rfl) (by decide) rfl (Nat.le_of_ble_eq_true rfl) (show P_aw _ _ _ 0 [.ref (w.2.2 (15 + i.toNat))] [] _ _ from ?_)
        refine P_aw_op (L' := [.ref (w.2.2 (15 + i.toNat))]) (st' := [.ref (w.2.2 (15 + i.toNat))]) P_i16_0 rfl (show P_aw _ _ _ 1 [.ref (w.2.2 (15 + i.toNat))] [.ref (w.2.2 (15 + i.toNat))] _ _ from ?_)
        have hg5 := A_ok_rg hoy
        refine P_aw_getv P_i16_1 (hw.c (by omega)).2 (hw.c (by omega)).1 rfl rfl ((hK.2.2 i 0 (by omega) (by omega) (by omega)).trans (hy 0)) (show P_aw _ _ _ 4 [.ref (w.2.2 (15 + i.toNat))] [P_z (A_cf y 0)] _ _ from ?_)
        refine P_aw_op (L' := [.ref (w.2.2 (15 + i.toNat))]) (st' := [.ref (w.2.2 (15 + i.toNat)), P_z (A_cf y 0)]) P_i16_4 rfl (show P_aw _ _ _ 5 [.ref (w.2.2 (15 + i.toNat))] [.ref (w.2.2 (15 + i.toNat)), P_z (A_cf y 0)] _ _ from ?_)
        have hg6 := A_ok_rg hoy
        refine P_aw_getv P_i16_5 (hw.c (by omega)).2 (hw.c (by omega)).1 rfl rfl ((hK.2.2 i 2 (by omega) (by omega) (by omega)).trans (hy 2)) (show P_aw _ _ _ 8 [.ref (w.2.2 (15 + i.toNat))] [P_z (A_cf y 2), P_z (A_cf y 0)] _ _ from ?_)
        by_cases hc7 : (A_cf y 0) = (A_cf y 2)
        · refine P_aw_icf P_i16_8 ⟨by omega, by omega⟩ ⟨by omega, by omega⟩ (P_ci_nef (by omega)) (show P_aw _ _ _ 11 [.ref (w.2.2 (15 + i.toNat))] [] _ _ from ?_)
          refine P_aw_op (L' := [.ref (w.2.2 (15 + i.toNat))]) (st' := [P_z 1]) P_i16_11 rfl (show P_aw _ _ _ 12 [.ref (w.2.2 (15 + i.toNat))] [P_z 1] _ _ from ?_)
          refine P_aw_goto P_i16_12 (show P_aw _ _ _ 16 [.ref (w.2.2 (15 + i.toNat))] [P_z 1] _ _ from ?_)
          refine P_aw_end P_i16_16 rfl rfl (fun _ => rfl) rfl ?_
          show P_aw _ _ _ 46 [.ref (w.2.2 13), P_z i, .ref (w.2.2 (15 + i.toNat)), P_un] [P_z 1, .ref (w.2.2 13)] _ _
          refine P_aw_izf P_i77_46 ⟨by decide, by decide⟩ (P_ci_eqf (by omega)) (show P_aw _ _ _ 49 [.ref (w.2.2 13), P_z i, .ref (w.2.2 (15 + i.toNat)), P_un] [.ref (w.2.2 13)] _ _ from ?_)
          refine P_aw_op (L' := [.ref (w.2.2 13), P_z i, .ref (w.2.2 (15 + i.toNat)), P_un]) (st' := [P_z 1, .ref (w.2.2 13)]) P_i77_49 rfl (show P_aw _ _ _ 50 [.ref (w.2.2 13), P_z i, .ref (w.2.2 (15 + i.toNat)), P_un] [P_z 1, .ref (w.2.2 13)] _ _ from ?_)
          refine P_aw_goto P_i77_50 (show P_aw _ _ _ 54 [.ref (w.2.2 13), P_z i, .ref (w.2.2 (15 + i.toNat)), P_un] [P_z 1, .ref (w.2.2 13)] _ _ from ?_)
          refine P_aw_put P_i77_54 (hw.2.1 13 (by decide)) (hw.s rfl) rfl rfl rfl (show P_aw _ _ _ 57 [.ref (w.2.2 13), P_z i, .ref (w.2.2 (15 + i.toNat)), P_un] [] _ _ from ?_)
          refine P_aw_op (L' := [.ref (w.2.2 13), P_z i, .ref (w.2.2 (15 + i.toNat)), P_un]) (st' := [P_z 0]) P_i77_57 rfl (show P_aw _ _ _ 58 [.ref (w.2.2 13), P_z i, .ref (w.2.2 (15 + i.toNat)), P_un] [P_z 0] _ _ from ?_)
          refine P_aw_op (L' := [.ref (w.2.2 13), P_z i, .ref (w.2.2 (15 + i.toNat)), P_z 0]) (st' := []) P_i77_58 rfl (show P_aw _ _ _ 59 [.ref (w.2.2 13), P_z i, .ref (w.2.2 (15 + i.toNat)), P_z 0] [] _ _ from ?_)
          have eo : A_or v (A_odd y) = 1 := (by first | (have e1 : v = 1 := (by omega); rw [e1, A_or_1]) | (rw [show A_odd y = true from decide_eq_true (by omega), A_or_t]) | (have e0 : v = 0 := (by omega); rw [show A_odd y = false from decide_eq_false (by omega), e0]; rfl))
          refine s_nvl hw (y := y) (B := B) hok A.length _ [] A 0 1 hcs hi rfl rfl P_u2_at (by omega) (A_kn_K A_kn_u hK) (fun σ2 k1 k2 => ?_)
          refine P_aw_op (L' := [.ref (w.2.2 13), P_z (i + 1), .ref (w.2.2 (15 + i.toNat)), P_z i]) (st' := []) P_i77_99 (P_o_iinc rfl) (show P_aw _ _ _ 102 [.ref (w.2.2 13), P_z (i + 1), .ref (w.2.2 (15 + i.toNat)), P_z i] [] _ _ from ?_)
          refine P_aw_goto P_i77_102 (show P_aw _ _ _ 11 [.ref (w.2.2 13), P_z (i + 1), P_un, P_un] [] _ _ from ?_)
          have ev : σ2 13 5 = A_or v (A_odd y || A.any (A_cxb y)) := (by rw [k2, ← A_or_or, eo]); exact ih σ2 (A ++ [y]) B (i + 1) _ (by rw [hcs]; exact A_app) (by rw [hi]; simp) hlB ev A_or_rg (A_kn_K (A_kn_tr A_kn_u k1) hK) (fun σ' h1 h2 => by have e3 : A_or (A_or v (A_odd y || A.any (A_cxb y))) (A_nv (A ++ [y]) B) = A_or v (A_nv A (y :: B)) := A_or_or; rw [e3] at h2 ⊢; exact q σ' (A_kn_tr (A_kn_tr A_kn_u k1) h1) h2)
        · refine P_aw_ict P_i16_8 ⟨by omega, by omega⟩ ⟨by omega, by omega⟩ (P_ci_net (by omega)) (show P_aw _ _ _ 15 [.ref (w.2.2 (15 + i.toNat))] [] _ _ from ?_)
          refine P_aw_op (L' := [.ref (w.2.2 (15 + i.toNat))]) (st' := [P_z 0]) P_i16_15 rfl (show P_aw _ _ _ 16 [.ref (w.2.2 (15 + i.toNat))] [P_z 0] _ _ from ?_)
          refine P_aw_end P_i16_16 rfl rfl (fun _ => rfl) rfl ?_
          show P_aw _ _ _ 46 [.ref (w.2.2 13), P_z i, .ref (w.2.2 (15 + i.toNat)), P_un] [P_z 0, .ref (w.2.2 13)] _ _
          refine P_aw_izt P_i77_46 ⟨by decide, by decide⟩ (P_ci_eqt (by omega)) (show P_aw _ _ _ 53 [.ref (w.2.2 13), P_z i, .ref (w.2.2 (15 + i.toNat)), P_un] [.ref (w.2.2 13)] _ _ from ?_)
          refine P_aw_op (L' := [.ref (w.2.2 13), P_z i, .ref (w.2.2 (15 + i.toNat)), P_un]) (st' := [P_z 0, .ref (w.2.2 13)]) P_i77_53 rfl (show P_aw _ _ _ 54 [.ref (w.2.2 13), P_z i, .ref (w.2.2 (15 + i.toNat)), P_un] [P_z 0, .ref (w.2.2 13)] _ _ from ?_)
          refine P_aw_put P_i77_54 (hw.2.1 13 (by decide)) (hw.s rfl) rfl rfl rfl (show P_aw _ _ _ 57 [.ref (w.2.2 13), P_z i, .ref (w.2.2 (15 + i.toNat)), P_un] [] _ _ from ?_)
          refine P_aw_op (L' := [.ref (w.2.2 13), P_z i, .ref (w.2.2 (15 + i.toNat)), P_un]) (st' := [P_z 0]) P_i77_57 rfl (show P_aw _ _ _ 58 [.ref (w.2.2 13), P_z i, .ref (w.2.2 (15 + i.toNat)), P_un] [P_z 0] _ _ from ?_)
          refine P_aw_op (L' := [.ref (w.2.2 13), P_z i, .ref (w.2.2 (15 + i.toNat)), P_z 0]) (st' := []) P_i77_58 rfl (show P_aw _ _ _ 59 [.ref (w.2.2 13), P_z i, .ref (w.2.2 (15 + i.toNat)), P_z 0] [] _ _ from ?_)
          have eo : A_or v (A_odd y) = 0 := (by first | (have e1 : v = 1 := (by omega); rw [e1, A_or_1]) | (rw [show A_odd y = true from decide_eq_true (by omega), A_or_t]) | (have e0 : v = 0 := (by omega); rw [show A_odd y = false from decide_eq_false (by omega), e0]; rfl))
          refine s_nvl hw (y := y) (B := B) hok A.length _ [] A 0 0 hcs hi rfl rfl P_u2_at (by omega) (A_kn_K A_kn_u hK) (fun σ2 k1 k2 => ?_)
          refine P_aw_op (L' := [.ref (w.2.2 13), P_z (i + 1), .ref (w.2.2 (15 + i.toNat)), P_z i]) (st' := []) P_i77_99 (P_o_iinc rfl) (show P_aw _ _ _ 102 [.ref (w.2.2 13), P_z (i + 1), .ref (w.2.2 (15 + i.toNat)), P_z i] [] _ _ from ?_)
          refine P_aw_goto P_i77_102 (show P_aw _ _ _ 11 [.ref (w.2.2 13), P_z (i + 1), P_un, P_un] [] _ _ from ?_)
          have ev : σ2 13 5 = A_or v (A_odd y || A.any (A_cxb y)) := (by rw [k2, ← A_or_or, eo]); exact ih σ2 (A ++ [y]) B (i + 1) _ (by rw [hcs]; exact A_app) (by rw [hi]; simp) hlB ev A_or_rg (A_kn_K (A_kn_tr A_kn_u k1) hK) (fun σ' h1 h2 => by have e3 : A_or (A_or v (A_odd y || A.any (A_cxb y))) (A_nv (A ++ [y]) B) = A_or v (A_nv A (y :: B)) := A_or_or; rw [e3] at h2 ⊢; exact q σ' (A_kn_tr (A_kn_tr A_kn_u k1) h1) h2)
    · refine P_aw_izt P_i77_30 ⟨by omega, by omega⟩ (P_ci_net (by omega)) (show P_aw _ _ _ 49 [.ref (w.2.2 13), P_z i, .ref (w.2.2 (15 + i.toNat)), P_un] [.ref (w.2.2 13)] _ _ from ?_)
      refine P_aw_op (L' := [.ref (w.2.2 13), P_z i, .ref (w.2.2 (15 + i.toNat)), P_un]) (st' := [P_z 1, .ref (w.2.2 13)]) P_i77_49 rfl (show P_aw _ _ _ 50 [.ref (w.2.2 13), P_z i, .ref (w.2.2 (15 + i.toNat)), P_un] [P_z 1, .ref (w.2.2 13)] _ _ from ?_)
      refine P_aw_goto P_i77_50 (show P_aw _ _ _ 54 [.ref (w.2.2 13), P_z i, .ref (w.2.2 (15 + i.toNat)), P_un] [P_z 1, .ref (w.2.2 13)] _ _ from ?_)
      refine P_aw_put P_i77_54 (hw.2.1 13 (by decide)) (hw.s rfl) rfl rfl rfl (show P_aw _ _ _ 57 [.ref (w.2.2 13), P_z i, .ref (w.2.2 (15 + i.toNat)), P_un] [] _ _ from ?_)
      refine P_aw_op (L' := [.ref (w.2.2 13), P_z i, .ref (w.2.2 (15 + i.toNat)), P_un]) (st' := [P_z 0]) P_i77_57 rfl (show P_aw _ _ _ 58 [.ref (w.2.2 13), P_z i, .ref (w.2.2 (15 + i.toNat)), P_un] [P_z 0] _ _ from ?_)
      refine P_aw_op (L' := [.ref (w.2.2 13), P_z i, .ref (w.2.2 (15 + i.toNat)), P_z 0]) (st' := []) P_i77_58 rfl (show P_aw _ _ _ 59 [.ref (w.2.2 13), P_z i, .ref (w.2.2 (15 + i.toNat)), P_z 0] [] _ _ from ?_)
      have eo : A_or v (A_odd y) = 1 := (by first | (have e1 : v = 1 := (by omega); rw [e1, A_or_1]) | (rw [show A_odd y = true from decide_eq_true (by omega), A_or_t]) | (have e0 : v = 0 := (by omega); rw [show A_odd y = false from decide_eq_false (by omega), e0]; rfl))
      refine s_nvl hw (y := y) (B := B) hok A.length _ [] A 0 1 hcs hi rfl rfl P_u2_at (by omega) (A_kn_K A_kn_u hK) (fun σ2 k1 k2 => ?_)
      refine P_aw_op (L' := [.ref (w.2.2 13), P_z (i + 1), .ref (w.2.2 (15 + i.toNat)), P_z i]) (st' := []) P_i77_99 (P_o_iinc rfl) (show P_aw _ _ _ 102 [.ref (w.2.2 13), P_z (i + 1), .ref (w.2.2 (15 + i.toNat)), P_z i] [] _ _ from ?_)
      refine P_aw_goto P_i77_102 (show P_aw _ _ _ 11 [.ref (w.2.2 13), P_z (i + 1), P_un, P_un] [] _ _ from ?_)
      have ev : σ2 13 5 = A_or v (A_odd y || A.any (A_cxb y)) := (by rw [k2, ← A_or_or, eo]); exact ih σ2 (A ++ [y]) B (i + 1) _ (by rw [hcs]; exact A_app) (by rw [hi]; simp) hlB ev A_or_rg (A_kn_K (A_kn_tr A_kn_u k1) hK) (fun σ' h1 h2 => by have e3 : A_or (A_or v (A_odd y || A.any (A_cxb y))) (A_nv (A ++ [y]) B) = A_or v (A_nv A (y :: B)) := A_or_or; rw [e3] at h2 ⊢; exact q σ' (A_kn_tr (A_kn_tr A_kn_u k1) h1) h2)

theorem s_nv {w : P_Lw} (hw : P_Cw w) {d : Nat} {Q : P_R → P_A → Prop} {σ : P_A} {ns : Int} {cs : List A_cd} (hv : σ 13 5 = 0) (hK : A_KL σ cs) (hok : A_oks ns cs) (q : ∀ σ', A_kn σ σ' → σ' 13 5 = A_or 0 (A_nv [] cs) → Q (.inl (some (P_z (A_or 0 (A_nv [] cs))))) σ') : P_aw w (d + 3) 77 0 [.ref (w.2.2 13), P_un, P_un, P_un] [] σ Q := by
  refine P_aw_op (L' := [.ref (w.2.2 13), P_un, P_un, P_un]) (st' := [.ref (w.2.2 13)]) P_i77_0 rfl (show P_aw _ _ _ 1 [.ref (w.2.2 13), P_un, P_un, P_un] [.ref (w.2.2 13)] _ _ from ?_)
  refine P_aw_getv P_i77_1 (hw.2.1 13 (by decide)) (hw.s rfl) rfl rfl (hv) (show P_aw _ _ _ 4 [.ref (w.2.2 13), P_un, P_un, P_un] [P_z 0] _ _ from ?_)
  refine P_aw_izt P_i77_4 ⟨by decide, by decide⟩ (P_ci_eqt (by omega)) (show P_aw _ _ _ 9 [.ref (w.2.2 13), P_un, P_un, P_un] [] _ _ from ?_)
  refine P_aw_op (L' := [.ref (w.2.2 13), P_un, P_un, P_un]) (st' := [P_z 0]) P_i77_9 rfl (show P_aw _ _ _ 10 [.ref (w.2.2 13), P_un, P_un, P_un] [P_z 0] _ _ from ?_)
  refine P_aw_op (L' := [.ref (w.2.2 13), P_z 0, P_un, P_un]) (st' := []) P_i77_10 rfl (show P_aw _ _ _ 11 [.ref (w.2.2 13), P_z 0, P_un, P_un] [] _ _ from ?_)
  exact s_nvo hw hok cs.length σ [] cs 0 0 rfl rfl rfl hv (by omega) hK q

theorem s_nv1 {w : P_Lw} (hw : P_Cw w) {d : Nat} {Q : P_R → P_A → Prop} {σ : P_A} (hv : σ 13 5 = 1) (q : Q (.inl (some (P_z 0))) σ) : P_aw w (d + 3) 77 0 [.ref (w.2.2 13), P_un, P_un, P_un] [] σ Q := by
  refine P_aw_op (L' := [.ref (w.2.2 13), P_un, P_un, P_un]) (st' := [.ref (w.2.2 13)]) P_i77_0 rfl (show P_aw _ _ _ 1 [.ref (w.2.2 13), P_un, P_un, P_un] [.ref (w.2.2 13)] _ _ from ?_)
  refine P_aw_getv P_i77_1 (hw.2.1 13 (by decide)) (hw.s rfl) rfl rfl (hv) (show P_aw _ _ _ 4 [.ref (w.2.2 13), P_un, P_un, P_un] [P_z 1] _ _ from ?_)
  refine P_aw_izf P_i77_4 ⟨by decide, by decide⟩ (P_ci_eqf (by omega)) (show P_aw _ _ _ 7 [.ref (w.2.2 13), P_un, P_un, P_un] [] _ _ from ?_)
  refine P_aw_op (L' := [.ref (w.2.2 13), P_un, P_un, P_un]) (st' := [P_z 0]) P_i77_7 rfl (show P_aw _ _ _ 8 [.ref (w.2.2 13), P_un, P_un, P_un] [P_z 0] _ _ from ?_)
  refine P_aw_end P_i77_8 rfl rfl (fun _ => rfl) rfl ?_
  exact q
