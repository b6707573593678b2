/-! the class, written by wip/c1.py: 62.table -/
/-- the first row from i on, before r, that has the same value as r; r if there is none -/
def P_fa (f : Int → Int) (r : Int) : Nat → Int → Int
  | 0, _ => r
  | n + 1, i => if i < r then if f i = f r then i else P_fa f r n (i + 1) else r
/-- how many of n rows from i on are the first with their value -/
def P_dv (f : Int → Int) : Nat → Int → Int → Int
  | 0, _, a => a
  | n + 1, i, a => P_dv f n (i + 1) (if P_fa f i i.toNat 0 = i then a + 1 else a)
theorem P_fa_rg {f : Int → Int} {r : Int} : ∀ (n : Nat) (i : Int), 0 ≤ i → i ≤ r → 0 ≤ P_fa f r n i ∧ P_fa f r n i ≤ r := by
  intro n
  induction n with
  | zero => intro i h1 h2; simp only [P_fa]; omega
  | succ n ih =>
    intro i h1 h2
    simp only [P_fa]
    split
    · split
      · omega
      · exact ih (i + 1) (by omega) (by omega)
    · omega
theorem P_dv_rg {f : Int → Int} : ∀ (n : Nat) (i a : Int), a ≤ P_dv f n i a ∧ P_dv f n i a ≤ a + n := by
  intro n
  induction n with
  | zero => intro i a; simp only [P_dv]; omega
  | succ n ih =>
    intro i a
    simp only [P_dv]
    split
    · have := ih (i + 1) (a + 1); omega
    · have := ih (i + 1) a; omega
/-- a table's numbers of varieties, for its first n columns -/
def P_cv (σ : P_A) (k : Nat) (n : Int) (g : Int → Int) : P_A := fun a b => if a = k + 2 ∧ (b : Int) < n then g b else σ a b
theorem P_cv_ne {σ : P_A} {k a b : Nat} {n : Int} {g : Int → Int} (h : a ≠ k + 2) : P_cv σ k n g a b = σ a b := if_neg (fun q => h q.1)
theorem P_cv_0 {σ : P_A} {k : Nat} {g : Int → Int} : P_cv σ k 0 g = σ := by
  funext a b
  exact if_neg (fun q => by omega)
theorem P_cv_step {σ : P_A} {k : Nat} {c : Int} {g : Int → Int} (hc : 0 ≤ c) : P_u2 (P_cv σ k c g) (k + 2) c.toNat (g c) = P_cv σ k (c + 1) g := by
  funext a b
  unfold P_u2 P_cv
  by_cases e : a = k + 2
  · by_cases e2 : b = c.toNat
    · rw [if_pos ⟨e, e2⟩, if_pos ⟨e, by omega⟩, e2, Int.toNat_of_nonneg hc]
    · rw [if_neg (fun q => e2 q.2)]
      by_cases e3 : (b : Int) < c
      · rw [if_pos ⟨e, e3⟩, if_pos ⟨e, by omega⟩]
      · rw [if_neg (fun q => e3 q.2), if_neg (fun q => e3 (by omega))]
  · rw [if_neg (fun q => e q.1), if_neg (fun q => e q.1), if_neg (fun q => e q.1)]

theorem s_fal {w : P_Lw} (hw : P_Cw w) {d : Nat} {Q : P_R → P_A → Prop} {σ : P_A} {k : Nat} (hT : P_isT w k) {rw cl : Int} {f : Int → Int} {c : Int} (hr : σ k 3 = rw) (hc : σ k 0 = cl) (hf : ∀ j, 0 ≤ j → j < rw → σ (k + 1) ((j * 3) + c).toNat = f j) (hg : ∀ j, 0 ≤ j → j < rw → -2147483648 ≤ f j ∧ f j ≤ 2147483647) (ht : 0 ≤ rw ∧ rw ≤ 14 ∧ 0 ≤ cl ∧ cl ≤ 3) (hcc : 0 ≤ c ∧ c < cl) {r : Int} (h1 : 0 ≤ r ∧ r < rw) : ∀ (n : Nat) (i : Int), (0 ≤ i ∧ i ≤ r) → (r ≤ i + (n : Nat)) → Q (.inl (some (P_z (P_fa f r n i)))) σ → P_aw w (d + 2) 127 10 [.ref (w.2.2 k), P_z r, P_z c, P_z (f r), P_z i] [] σ Q := by
  have hs0 := hg r (by omega) (by omega)
  intro n
  induction n with
  | zero =>
    intro i hv0 hv1 q
    refine P_aw_op (L' := [.ref (w.2.2 k), P_z r, P_z c, P_z (f r), P_z i]) (st' := [P_z i]) P_i127_10 rfl (show P_aw _ _ _ 12 [.ref (w.2.2 k), P_z r, P_z c, P_z (f r), P_z i] [P_z i] _ _ from ?_)
    refine P_aw_op (L' := [.ref (w.2.2 k), P_z r, P_z c, P_z (f r), P_z i]) (st' := [P_z r, P_z i]) P_i127_12 rfl (show P_aw _ _ _ 13 [.ref (w.2.2 k), P_z r, P_z c, P_z (f r), P_z i] [P_z r, P_z i] _ _ from ?_)
    refine P_aw_ict P_i127_13 ⟨by omega, by omega⟩ ⟨by omega, by omega⟩ (P_ci_get (by omega)) (show P_aw _ _ _ 45 [.ref (w.2.2 k), P_z r, P_z c, P_z (f r), P_z i] [] _ _ from ?_)
    refine P_aw_op (L' := [.ref (w.2.2 k), P_z r, P_z c, P_z (f r), P_z i]) (st' := [P_z r]) P_i127_45 rfl (show P_aw _ _ _ 46 [.ref (w.2.2 k), P_z r, P_z c, P_z (f r), P_z i] [P_z r] _ _ from ?_)
    refine P_aw_end P_i127_46 rfl rfl (fun _ => rfl) rfl ?_
    exact q
  | succ n ih =>
    intro i hv0 hv1 q
    refine P_aw_op (L' := [.ref (w.2.2 k), P_z r, P_z c, P_z (f r), P_z i]) (st' := [P_z i]) P_i127_10 rfl (show P_aw _ _ _ 12 [.ref (w.2.2 k), P_z r, P_z c, P_z (f r), P_z i] [P_z i] _ _ from ?_)
    refine P_aw_op (L' := [.ref (w.2.2 k), P_z r, P_z c, P_z (f r), P_z i]) (st' := [P_z r, P_z i]) P_i127_12 rfl (show P_aw _ _ _ 13 [.ref (w.2.2 k), P_z r, P_z c, P_z (f r), P_z i] [P_z r, P_z i] _ _ from ?_)
    rcases Int.lt_or_le i r with hc1 | hc1
    · refine P_aw_icf P_i127_13 ⟨by omega, by omega⟩ ⟨by omega, by omega⟩ (P_ci_gef (by omega)) (show P_aw _ _ _ 16 [.ref (w.2.2 k), P_z r, P_z c, P_z (f r), P_z i] [] _ _ from ?_)
      refine P_aw_op (L' := [.ref (w.2.2 k), P_z r, P_z c, P_z (f r), P_z i]) (st' := [P_z i]) P_i127_16 rfl (show P_aw _ _ _ 18 [.ref (w.2.2 k), P_z r, P_z c, P_z (f r), P_z i] [P_z i] _ _ from ?_)
      refine P_aw_op (L' := [.ref (w.2.2 k), P_z r, P_z c, P_z (f r), P_z i]) (st' := [.ref (w.2.2 k), P_z i]) P_i127_18 rfl (show P_aw _ _ _ 19 [.ref (w.2.2 k), P_z r, P_z c, P_z (f r), P_z i] [.ref (w.2.2 k), P_z i] _ _ from ?_)
      refine P_aw_getv P_i127_19 hT.1.2 hT.1.1 rfl rfl (hr) (show P_aw _ _ _ 22 [.ref (w.2.2 k), P_z r, P_z c, P_z (f r), P_z i] [P_z rw, P_z i] _ _ from ?_)
      refine P_aw_icf P_i127_22 ⟨by omega, by omega⟩ ⟨by omega, by omega⟩ (P_ci_gef (by omega)) (show P_aw _ _ _ 25 [.ref (w.2.2 k), P_z r, P_z c, P_z (f r), P_z i] [] _ _ from ?_)
      refine P_aw_op (L' := [.ref (w.2.2 k), P_z r, P_z c, P_z (f r), P_z i]) (st' := [.ref (w.2.2 k)]) P_i127_25 rfl (show P_aw _ _ _ 26 [.ref (w.2.2 k), P_z r, P_z c, P_z (f r), P_z i] [.ref (w.2.2 k)] _ _ from ?_)
      refine P_aw_op (L' := [.ref (w.2.2 k), P_z r, P_z c, P_z (f r), P_z i]) (st' := [P_z i, .ref (w.2.2 k)]) P_i127_26 rfl (show P_aw _ _ _ 28 [.ref (w.2.2 k), P_z r, P_z c, P_z (f r), P_z i] [P_z i, .ref (w.2.2 k)] _ _ from ?_)
      refine P_aw_op (L' := [.ref (w.2.2 k), P_z r, P_z c, P_z (f r), P_z i]) (st' := [P_z c, P_z i, .ref (w.2.2 k)]) P_i127_28 rfl (show P_aw _ _ _ 29 [.ref (w.2.2 k), P_z r, P_z c, P_z (f r), P_z i] [P_z c, P_z i, .ref (w.2.2 k)] _ _ from ?_)
      refine P_aw_call P_i127_29 rfl rfl (fun _ => rfl) rfl rfl rfl rfl (y2 := 122) (as := [.ref (w.2.2 k), P_z i, P_z c]) (r0 := []) (P_inv_v hT.1.2 hT.1.1 rfl rfl) (Nat.le_of_ble_eq_true rfl) (by decide) rfl (Nat.le_of_ble_eq_true rfl) (show P_aw _ _ _ 0 [.ref (w.2.2 k), P_z i, P_z c, P_un] [] _ _ from ?_)
      refine P_aw_op (L' := [.ref (w.2.2 k), P_z i, P_z c, P_un]) (st' := [P_z i]) P_i122_0 rfl (show P_aw _ _ _ 1 [.ref (w.2.2 k), P_z i, P_z c, P_un] [P_z i] _ _ from ?_)
      refine P_aw_izf P_i122_1 ⟨by omega, by omega⟩ (P_ci_ltf (by omega)) (show P_aw _ _ _ 4 [.ref (w.2.2 k), P_z i, P_z c, P_un] [] _ _ from ?_)
      refine P_aw_op (L' := [.ref (w.2.2 k), P_z i, P_z c, P_un]) (st' := [P_z i]) P_i122_4 rfl (show P_aw _ _ _ 5 [.ref (w.2.2 k), P_z i, P_z c, P_un] [P_z i] _ _ from ?_)
      refine P_aw_op (L' := [.ref (w.2.2 k), P_z i, P_z c, P_un]) (st' := [.ref (w.2.2 k), P_z i]) P_i122_5 rfl (show P_aw _ _ _ 6 [.ref (w.2.2 k), P_z i, P_z c, P_un] [.ref (w.2.2 k), P_z i] _ _ from ?_)
      refine P_aw_getv P_i122_6 hT.1.2 hT.1.1 rfl rfl (hr) (show P_aw _ _ _ 9 [.ref (w.2.2 k), P_z i, P_z c, P_un] [P_z rw, P_z i] _ _ from ?_)
      refine P_aw_icf P_i122_9 ⟨by omega, by omega⟩ ⟨by omega, by omega⟩ (P_ci_gef (by omega)) (show P_aw _ _ _ 12 [.ref (w.2.2 k), P_z i, P_z c, P_un] [] _ _ from ?_)
      refine P_aw_op (L' := [.ref (w.2.2 k), P_z i, P_z c, P_un]) (st' := [P_z c]) P_i122_12 rfl (show P_aw _ _ _ 13 [.ref (w.2.2 k), P_z i, P_z c, P_un] [P_z c] _ _ from ?_)
      refine P_aw_izf P_i122_13 ⟨by omega, by omega⟩ (P_ci_ltf (by omega)) (show P_aw _ _ _ 16 [.ref (w.2.2 k), P_z i, P_z c, P_un] [] _ _ from ?_)
      refine P_aw_op (L' := [.ref (w.2.2 k), P_z i, P_z c, P_un]) (st' := [P_z c]) P_i122_16 rfl (show P_aw _ _ _ 17 [.ref (w.2.2 k), P_z i, P_z c, P_un] [P_z c] _ _ from ?_)
      refine P_aw_op (L' := [.ref (w.2.2 k), P_z i, P_z c, P_un]) (st' := [.ref (w.2.2 k), P_z c]) P_i122_17 rfl (show P_aw _ _ _ 18 [.ref (w.2.2 k), P_z i, P_z c, P_un] [.ref (w.2.2 k), P_z c] _ _ from ?_)
      refine P_aw_getv P_i122_18 hT.1.2 hT.1.1 rfl rfl (hc) (show P_aw _ _ _ 21 [.ref (w.2.2 k), P_z i, P_z c, P_un] [P_z cl, P_z c] _ _ from ?_)
      refine P_aw_ict P_i122_21 ⟨by omega, by omega⟩ ⟨by omega, by omega⟩ (P_ci_ltt (by omega)) (show P_aw _ _ _ 26 [.ref (w.2.2 k), P_z i, P_z c, P_un] [] _ _ from ?_)
      refine P_aw_op (L' := [.ref (w.2.2 k), P_z i, P_z c, P_un]) (st' := [P_z i]) P_i122_26 rfl (show P_aw _ _ _ 27 [.ref (w.2.2 k), P_z i, P_z c, P_un] [P_z i] _ _ from ?_)
      refine P_aw_op (L' := [.ref (w.2.2 k), P_z i, P_z c, P_un]) (st' := [P_z 3, P_z i]) P_i122_27 rfl (show P_aw _ _ _ 28 [.ref (w.2.2 k), P_z i, P_z c, P_un] [P_z 3, P_z i] _ _ from ?_)
      refine P_aw_op (L' := [.ref (w.2.2 k), P_z i, P_z c, P_un]) (st' := [P_z (i * 3)]) P_i122_28 P_o_imul (show P_aw _ _ _ 29 [.ref (w.2.2 k), P_z i, P_z c, P_un] [P_z (i * 3)] _ _ from ?_)
      refine P_aw_op (L' := [.ref (w.2.2 k), P_z i, P_z c, P_un]) (st' := [P_z c, P_z (i * 3)]) P_i122_29 rfl (show P_aw _ _ _ 30 [.ref (w.2.2 k), P_z i, P_z c, P_un] [P_z c, P_z (i * 3)] _ _ from ?_)
      refine P_aw_op (L' := [.ref (w.2.2 k), P_z i, P_z c, P_un]) (st' := [P_z ((i * 3) + c)]) P_i122_30 P_o_iadd (show P_aw _ _ _ 31 [.ref (w.2.2 k), P_z i, P_z c, P_un] [P_z ((i * 3) + c)] _ _ from ?_)
      refine P_aw_op (L' := [.ref (w.2.2 k), P_z i, P_z c, P_z ((i * 3) + c)]) (st' := []) P_i122_31 rfl (show P_aw _ _ _ 32 [.ref (w.2.2 k), P_z i, P_z c, P_z ((i * 3) + c)] [] _ _ from ?_)
      refine P_aw_op (L' := [.ref (w.2.2 k), P_z i, P_z c, P_z ((i * 3) + c)]) (st' := [P_z ((i * 3) + c)]) P_i122_32 rfl (show P_aw _ _ _ 33 [.ref (w.2.2 k), P_z i, P_z c, P_z ((i * 3) + c)] [P_z ((i * 3) + c)] _ _ from ?_)
      refine P_aw_izf P_i122_33 ⟨by omega, by omega⟩ (P_ci_ltf (by omega)) (show P_aw _ _ _ 36 [.ref (w.2.2 k), P_z i, P_z c, P_z ((i * 3) + c)] [] _ _ from ?_)
      refine P_aw_op (L' := [.ref (w.2.2 k), P_z i, P_z c, P_z ((i * 3) + c)]) (st' := [P_z ((i * 3) + c)]) P_i122_36 rfl (show P_aw _ _ _ 37 [.ref (w.2.2 k), P_z i, P_z c, P_z ((i * 3) + c)] [P_z ((i * 3) + c)] _ _ from ?_)
      refine P_aw_op (L' := [.ref (w.2.2 k), P_z i, P_z c, P_z ((i * 3) + c)]) (st' := [.ref (w.2.2 k), P_z ((i * 3) + c)]) P_i122_37 rfl (show P_aw _ _ _ 38 [.ref (w.2.2 k), P_z i, P_z c, P_z ((i * 3) + c)] [.ref (w.2.2 k), P_z ((i * 3) + c)] _ _ from ?_)
      refine P_aw_getR P_i122_38 hT.1.2 hT.1.1 rfl rfl (show P_aw _ _ _ 41 [.ref (w.2.2 k), P_z i, P_z c, P_z ((i * 3) + c)] [.ref (w.2.2 (k + 1)), P_z ((i * 3) + c)] _ _ from ?_)
      refine P_aw_alen P_i122_41 hT.2.1.2 hT.2.1.1 (show P_aw _ _ _ 42 [.ref (w.2.2 k), P_z i, P_z c, P_z ((i * 3) + c)] [P_z 42, P_z ((i * 3) + c)] _ _ from ?_)
      refine P_aw_icf P_i122_42 ⟨by omega, by omega⟩ ⟨by decide, by decide⟩ (P_ci_gef (by omega)) (show P_aw _ _ _ 45 [.ref (w.2.2 k), P_z i, P_z c, P_z ((i * 3) + c)] [] _ _ from ?_)
      refine P_aw_op (L' := [.ref (w.2.2 k), P_z i, P_z c, P_z ((i * 3) + c)]) (st' := [.ref (w.2.2 k)]) P_i122_45 rfl (show P_aw _ _ _ 46 [.ref (w.2.2 k), P_z i, P_z c, P_z ((i * 3) + c)] [.ref (w.2.2 k)] _ _ from ?_)
      refine P_aw_getR P_i122_46 hT.1.2 hT.1.1 rfl rfl (show P_aw _ _ _ 49 [.ref (w.2.2 k), P_z i, P_z c, P_z ((i * 3) + c)] [.ref (w.2.2 (k + 1))] _ _ from ?_)
      refine P_aw_op (L' := [.ref (w.2.2 k), P_z i, P_z c, P_z ((i * 3) + c)]) (st' := [P_z ((i * 3) + c), .ref (w.2.2 (k + 1))]) P_i122_49 rfl (show P_aw _ _ _ 50 [.ref (w.2.2 k), P_z i, P_z c, P_z ((i * 3) + c)] [P_z ((i * 3) + c), .ref (w.2.2 (k + 1))] _ _ from ?_)
      have hg2 := hg i (by omega) (by omega)
      refine P_aw_aldv P_i122_50 hT.2.1.2 hT.2.1.1 (by omega) (by omega) (by decide) (hf i (by omega) (by omega)) (show P_aw _ _ _ 51 [.ref (w.2.2 k), P_z i, P_z c, P_z ((i * 3) + c)] [P_z (f i)] _ _ from ?_)
      refine P_aw_goto P_i122_51 (show P_aw _ _ _ 55 [.ref (w.2.2 k), P_z i, P_z c, P_z ((i * 3) + c)] [P_z (f i)] _ _ from ?_)
      refine P_aw_end P_i122_55 rfl rfl (fun _ => rfl) rfl ?_
      show P_aw _ _ _ 32 [.ref (w.2.2 k), P_z r, P_z c, P_z (f r), P_z i] [P_z (f i)] _ _
      refine P_aw_op (L' := [.ref (w.2.2 k), P_z r, P_z c, P_z (f r), P_z i]) (st' := [P_z (f r), P_z (f i)]) P_i127_32 rfl (show P_aw _ _ _ 33 [.ref (w.2.2 k), P_z r, P_z c, P_z (f r), P_z i] [P_z (f r), P_z (f i)] _ _ from ?_)
      by_cases hc3 : (f i) = (f r)
      · refine P_aw_icf P_i127_33 ⟨by omega, by omega⟩ ⟨by omega, by omega⟩ (P_ci_nef (by omega)) (show P_aw _ _ _ 36 [.ref (w.2.2 k), P_z r, P_z c, P_z (f r), P_z i] [] _ _ from ?_)
        refine P_aw_op (L' := [.ref (w.2.2 k), P_z r, P_z c, P_z (f r), P_z i]) (st' := [P_z i]) P_i127_36 rfl (show P_aw _ _ _ 38 [.ref (w.2.2 k), P_z r, P_z c, P_z (f r), P_z i] [P_z i] _ _ from ?_)
        refine P_aw_end P_i127_38 rfl rfl (fun _ => rfl) rfl ?_
        exact P_qz (by (try simp only [P_fa]); (repeat' split) <;> first | rfl | omega | (exfalso; omega) | (simp_all; done) | (simp_all; omega)) rfl q
      · refine P_aw_ict P_i127_33 ⟨by omega, by omega⟩ ⟨by omega, by omega⟩ (P_ci_net (by omega)) (show P_aw _ _ _ 39 [.ref (w.2.2 k), P_z r, P_z c, P_z (f r), P_z i] [] _ _ from ?_)
        refine P_aw_op (L' := [.ref (w.2.2 k), P_z r, P_z c, P_z (f r), P_z (i + 1)]) (st' := []) P_i127_39 (P_o_iinc rfl) (show P_aw _ _ _ 42 [.ref (w.2.2 k), P_z r, P_z c, P_z (f r), P_z (i + 1)] [] _ _ from ?_)
        refine P_aw_goto P_i127_42 (show P_aw _ _ _ 10 [.ref (w.2.2 k), P_z r, P_z c, P_z (f r), P_z (i + 1)] [] _ _ from ?_)
        exact ih (i + 1) (by omega) (by omega) (P_qz (by (try simp only [P_fa]); (repeat' split) <;> first | rfl | omega | (exfalso; omega) | (simp_all; done) | (simp_all; omega)) rfl q)
    · refine P_aw_ict P_i127_13 ⟨by omega, by omega⟩ ⟨by omega, by omega⟩ (P_ci_get (by omega)) (show P_aw _ _ _ 45 [.ref (w.2.2 k), P_z r, P_z c, P_z (f r), P_z i] [] _ _ from ?_)
      refine P_aw_op (L' := [.ref (w.2.2 k), P_z r, P_z c, P_z (f r), P_z i]) (st' := [P_z r]) P_i127_45 rfl (show P_aw _ _ _ 46 [.ref (w.2.2 k), P_z r, P_z c, P_z (f r), P_z i] [P_z r] _ _ from ?_)
      refine P_aw_end P_i127_46 rfl rfl (fun _ => rfl) rfl ?_
      exact P_qz (by (try simp only [P_fa]); (repeat' split) <;> first | rfl | omega | (exfalso; omega) | (simp_all; done) | (simp_all; omega)) rfl q

theorem s_fa {w : P_Lw} (hw : P_Cw w) {d : Nat} {Q : P_R → P_A → Prop} {σ : P_A} {k : Nat} (hT : P_isT w k) {rw cl : Int} {f : Int → Int} {c : Int} (hr : σ k 3 = rw) (hc : σ k 0 = cl) (hf : ∀ j, 0 ≤ j → j < rw → σ (k + 1) ((j * 3) + c).toNat = f j) (hg : ∀ j, 0 ≤ j → j < rw → -2147483648 ≤ f j ∧ f j ≤ 2147483647) (ht : 0 ≤ rw ∧ rw ≤ 14 ∧ 0 ≤ cl ∧ cl ≤ 3) (hcc : 0 ≤ c ∧ c < cl) {r : Int} (h1 : 0 ≤ r ∧ r < rw) (q : Q (.inl (some (P_z (P_fa f r r.toNat 0)))) σ) : P_aw w (d + 2) 127 0 [.ref (w.2.2 k), P_z r, P_z c, P_un, P_un] [] σ Q := by
  refine P_aw_op (L' := [.ref (w.2.2 k), P_z r, P_z c, P_un, P_un]) (st' := [.ref (w.2.2 k)]) P_i127_0 rfl (show P_aw _ _ _ 1 [.ref (w.2.2 k), P_z r, P_z c, P_un, P_un] [.ref (w.2.2 k)] _ _ from ?_)
  refine P_aw_op (L' := [.ref (w.2.2 k), P_z r, P_z c, P_un, P_un]) (st' := [P_z r, .ref (w.2.2 k)]) P_i127_1 rfl (show P_aw _ _ _ 2 [.ref (w.2.2 k), P_z r, P_z c, P_un, P_un] [P_z r, .ref (w.2.2 k)] _ _ from ?_)
  refine P_aw_op (L' := [.ref (w.2.2 k), P_z r, P_z c, P_un, P_un]) (st' := [P_z c, P_z r, .ref (w.2.2 k)]) P_i127_2 rfl (show P_aw _ _ _ 3 [.ref (w.2.2 k), P_z r, P_z c, P_un, P_un] [P_z c, P_z r, .ref (w.2.2 k)] _ _ from ?_)
  refine P_aw_call P_i127_3 rfl rfl (fun _ => rfl) rfl rfl rfl rfl (y2 := 122) (as := [.ref (w.2.2 k), P_z r, P_z c]) (r0 := []) (P_inv_v hT.1.2 hT.1.1 rfl rfl) (Nat.le_of_ble_eq_true rfl) (by decide) rfl (Nat.le_of_ble_eq_true rfl) (show P_aw _ _ _ 0 [.ref (w.2.2 k), P_z r, P_z c, P_un] [] _ _ from ?_)
  refine P_aw_op (L' := [.ref (w.2.2 k), P_z r, P_z c, P_un]) (st' := [P_z r]) P_i122_0 rfl (show P_aw _ _ _ 1 [.ref (w.2.2 k), P_z r, P_z c, P_un] [P_z r] _ _ from ?_)
  refine P_aw_izf P_i122_1 ⟨by omega, by omega⟩ (P_ci_ltf (by omega)) (show P_aw _ _ _ 4 [.ref (w.2.2 k), P_z r, P_z c, P_un] [] _ _ from ?_)
  refine P_aw_op (L' := [.ref (w.2.2 k), P_z r, P_z c, P_un]) (st' := [P_z r]) P_i122_4 rfl (show P_aw _ _ _ 5 [.ref (w.2.2 k), P_z r, P_z c, P_un] [P_z r] _ _ from ?_)
  refine P_aw_op (L' := [.ref (w.2.2 k), P_z r, P_z c, P_un]) (st' := [.ref (w.2.2 k), P_z r]) P_i122_5 rfl (show P_aw _ _ _ 6 [.ref (w.2.2 k), P_z r, P_z c, P_un] [.ref (w.2.2 k), P_z r] _ _ from ?_)
  refine P_aw_getv P_i122_6 hT.1.2 hT.1.1 rfl rfl (hr) (show P_aw _ _ _ 9 [.ref (w.2.2 k), P_z r, P_z c, P_un] [P_z rw, P_z r] _ _ from ?_)
  refine P_aw_icf P_i122_9 ⟨by omega, by omega⟩ ⟨by omega, by omega⟩ (P_ci_gef (by omega)) (show P_aw _ _ _ 12 [.ref (w.2.2 k), P_z r, P_z c, P_un] [] _ _ from ?_)
  refine P_aw_op (L' := [.ref (w.2.2 k), P_z r, P_z c, P_un]) (st' := [P_z c]) P_i122_12 rfl (show P_aw _ _ _ 13 [.ref (w.2.2 k), P_z r, P_z c, P_un] [P_z c] _ _ from ?_)
  refine P_aw_izf P_i122_13 ⟨by omega, by omega⟩ (P_ci_ltf (by omega)) (show P_aw _ _ _ 16 [.ref (w.2.2 k), P_z r, P_z c, P_un] [] _ _ from ?_)
  refine P_aw_op (L' := [.ref (w.2.2 k), P_z r, P_z c, P_un]) (st' := [P_z c]) P_i122_16 rfl (show P_aw _ _ _ 17 [.ref (w.2.2 k), P_z r, P_z c, P_un] [P_z c] _ _ from ?_)
  refine P_aw_op (L' := [.ref (w.2.2 k), P_z r, P_z c, P_un]) (st' := [.ref (w.2.2 k), P_z c]) P_i122_17 rfl (show P_aw _ _ _ 18 [.ref (w.2.2 k), P_z r, P_z c, P_un] [.ref (w.2.2 k), P_z c] _ _ from ?_)
  refine P_aw_getv P_i122_18 hT.1.2 hT.1.1 rfl rfl (hc) (show P_aw _ _ _ 21 [.ref (w.2.2 k), P_z r, P_z c, P_un] [P_z cl, P_z c] _ _ from ?_)
  refine P_aw_ict P_i122_21 ⟨by omega, by omega⟩ ⟨by omega, by omega⟩ (P_ci_ltt (by omega)) (show P_aw _ _ _ 26 [.ref (w.2.2 k), P_z r, P_z c, P_un] [] _ _ from ?_)
  refine P_aw_op (L' := [.ref (w.2.2 k), P_z r, P_z c, P_un]) (st' := [P_z r]) P_i122_26 rfl (show P_aw _ _ _ 27 [.ref (w.2.2 k), P_z r, P_z c, P_un] [P_z r] _ _ from ?_)
  refine P_aw_op (L' := [.ref (w.2.2 k), P_z r, P_z c, P_un]) (st' := [P_z 3, P_z r]) P_i122_27 rfl (show P_aw _ _ _ 28 [.ref (w.2.2 k), P_z r, P_z c, P_un] [P_z 3, P_z r] _ _ from ?_)
  refine P_aw_op (L' := [.ref (w.2.2 k), P_z r, P_z c, P_un]) (st' := [P_z (r * 3)]) P_i122_28 P_o_imul (show P_aw _ _ _ 29 [.ref (w.2.2 k), P_z r, P_z c, P_un] [P_z (r * 3)] _ _ from ?_)
  refine P_aw_op (L' := [.ref (w.2.2 k), P_z r, P_z c, P_un]) (st' := [P_z c, P_z (r * 3)]) P_i122_29 rfl (show P_aw _ _ _ 30 [.ref (w.2.2 k), P_z r, P_z c, P_un] [P_z c, P_z (r * 3)] _ _ from ?_)
  refine P_aw_op (L' := [.ref (w.2.2 k), P_z r, P_z c, P_un]) (st' := [P_z ((r * 3) + c)]) P_i122_30 P_o_iadd (show P_aw _ _ _ 31 [.ref (w.2.2 k), P_z r, P_z c, P_un] [P_z ((r * 3) + c)] _ _ from ?_)
  refine P_aw_op (L' := [.ref (w.2.2 k), P_z r, P_z c, P_z ((r * 3) + c)]) (st' := []) P_i122_31 rfl (show P_aw _ _ _ 32 [.ref (w.2.2 k), P_z r, P_z c, P_z ((r * 3) + c)] [] _ _ from ?_)
  refine P_aw_op (L' := [.ref (w.2.2 k), P_z r, P_z c, P_z ((r * 3) + c)]) (st' := [P_z ((r * 3) + c)]) P_i122_32 rfl (show P_aw _ _ _ 33 [.ref (w.2.2 k), P_z r, P_z c, P_z ((r * 3) + c)] [P_z ((r * 3) + c)] _ _ from ?_)
  refine P_aw_izf P_i122_33 ⟨by omega, by omega⟩ (P_ci_ltf (by omega)) (show P_aw _ _ _ 36 [.ref (w.2.2 k), P_z r, P_z c, P_z ((r * 3) + c)] [] _ _ from ?_)
  refine P_aw_op (L' := [.ref (w.2.2 k), P_z r, P_z c, P_z ((r * 3) + c)]) (st' := [P_z ((r * 3) + c)]) P_i122_36 rfl (show P_aw _ _ _ 37 [.ref (w.2.2 k), P_z r, P_z c, P_z ((r * 3) + c)] [P_z ((r * 3) + c)] _ _ from ?_)
  refine P_aw_op (L' := [.ref (w.2.2 k), P_z r, P_z c, P_z ((r * 3) + c)]) (st' := [.ref (w.2.2 k), P_z ((r * 3) + c)]) P_i122_37 rfl (show P_aw _ _ _ 38 [.ref (w.2.2 k), P_z r, P_z c, P_z ((r * 3) + c)] [.ref (w.2.2 k), P_z ((r * 3) + c)] _ _ from ?_)
  refine P_aw_getR P_i122_38 hT.1.2 hT.1.1 rfl rfl (show P_aw _ _ _ 41 [.ref (w.2.2 k), P_z r, P_z c, P_z ((r * 3) + c)] [.ref (w.2.2 (k + 1)), P_z ((r * 3) + c)] _ _ from ?_)
  refine P_aw_alen P_i122_41 hT.2.1.2 hT.2.1.1 (show P_aw _ _ _ 42 [.ref (w.2.2 k), P_z r, P_z c, P_z ((r * 3) + c)] [P_z 42, P_z ((r * 3) + c)] _ _ from ?_)
  refine P_aw_icf P_i122_42 ⟨by omega, by omega⟩ ⟨by decide, by decide⟩ (P_ci_gef (by omega)) (show P_aw _ _ _ 45 [.ref (w.2.2 k), P_z r, P_z c, P_z ((r * 3) + c)] [] _ _ from ?_)
  refine P_aw_op (L' := [.ref (w.2.2 k), P_z r, P_z c, P_z ((r * 3) + c)]) (st' := [.ref (w.2.2 k)]) P_i122_45 rfl (show P_aw _ _ _ 46 [.ref (w.2.2 k), P_z r, P_z c, P_z ((r * 3) + c)] [.ref (w.2.2 k)] _ _ from ?_)
  refine P_aw_getR P_i122_46 hT.1.2 hT.1.1 rfl rfl (show P_aw _ _ _ 49 [.ref (w.2.2 k), P_z r, P_z c, P_z ((r * 3) + c)] [.ref (w.2.2 (k + 1))] _ _ from ?_)
  refine P_aw_op (L' := [.ref (w.2.2 k), P_z r, P_z c, P_z ((r * 3) + c)]) (st' := [P_z ((r * 3) + c), .ref (w.2.2 (k + 1))]) P_i122_49 rfl (show P_aw _ _ _ 50 [.ref (w.2.2 k), P_z r, P_z c, P_z ((r * 3) + c)] [P_z ((r * 3) + c), .ref (w.2.2 (k + 1))] _ _ from ?_)
  have hg1 := hg r (by omega) (by omega)
  refine P_aw_aldv P_i122_50 hT.2.1.2 hT.2.1.1 (by omega) (by omega) (by decide) (hf r (by omega) (by omega)) (show P_aw _ _ _ 51 [.ref (w.2.2 k), P_z r, P_z c, P_z ((r * 3) + c)] [P_z (f r)] _ _ from ?_)
  refine P_aw_goto P_i122_51 (show P_aw _ _ _ 55 [.ref (w.2.2 k), P_z r, P_z c, P_z ((r * 3) + c)] [P_z (f r)] _ _ from ?_)
  refine P_aw_end P_i122_55 rfl rfl (fun _ => rfl) rfl ?_
  show P_aw _ _ _ 6 [.ref (w.2.2 k), P_z r, P_z c, P_un, P_un] [P_z (f r)] _ _
  refine P_aw_op (L' := [.ref (w.2.2 k), P_z r, P_z c, P_z (f r), P_un]) (st' := []) P_i127_6 rfl (show P_aw _ _ _ 7 [.ref (w.2.2 k), P_z r, P_z c, P_z (f r), P_un] [] _ _ from ?_)
  refine P_aw_op (L' := [.ref (w.2.2 k), P_z r, P_z c, P_z (f r), P_un]) (st' := [P_z 0]) P_i127_7 rfl (show P_aw _ _ _ 8 [.ref (w.2.2 k), P_z r, P_z c, P_z (f r), P_un] [P_z 0] _ _ from ?_)
  refine P_aw_op (L' := [.ref (w.2.2 k), P_z r, P_z c, P_z (f r), P_z 0]) (st' := []) P_i127_8 rfl (show P_aw _ _ _ 10 [.ref (w.2.2 k), P_z r, P_z c, P_z (f r), P_z 0] [] _ _ from ?_)
  exact s_fal hw hT hr hc hf hg ht hcc h1 r.toNat 0 (by omega) (by omega) q

theorem s_cvi {w : P_Lw} (hw : P_Cw w) {d : Nat} {Q : P_R → P_A → Prop} {σ : P_A} {k : Nat} (hT : P_isT w k) {rw cl : Int} {f : Int → Int} {c : Int} (hr : σ k 3 = rw) (hc : σ k 0 = cl) (hf : ∀ j, 0 ≤ j → j < rw → σ (k + 1) ((j * 3) + c).toNat = f j) (hg : ∀ j, 0 ≤ j → j < rw → -2147483648 ≤ f j ∧ f j ≤ 2147483647) (ht : 0 ≤ rw ∧ rw ≤ 14 ∧ 0 ≤ cl ∧ cl ≤ 3) (hcc : 0 ≤ c ∧ c < cl) : ∀ (n : Nat) (i : Int) (df : Int), (0 ≤ i ∧ i ≤ 14 ∧ 0 ≤ df ∧ df ≤ i) → (rw = i + (n : Nat)) → P_aw w (d + 3) 126 41 [.ref (w.2.2 k), P_z c, P_z (P_dv f n i df), P_z rw] [] σ Q → P_aw w (d + 3) 126 14 [.ref (w.2.2 k), P_z c, P_z df, P_z i] [] σ Q := by
  intro n
  induction n with
  | zero =>
    intro i df hv0 hv1 q
    refine P_aw_op (L' := [.ref (w.2.2 k), P_z c, P_z df, P_z i]) (st' := [P_z i]) P_i126_14 rfl (show P_aw _ _ _ 15 [.ref (w.2.2 k), P_z c, P_z df, P_z i] [P_z i] _ _ from ?_)
    refine P_aw_op (L' := [.ref (w.2.2 k), P_z c, P_z df, P_z i]) (st' := [.ref (w.2.2 k), P_z i]) P_i126_15 rfl (show P_aw _ _ _ 16 [.ref (w.2.2 k), P_z c, P_z df, P_z i] [.ref (w.2.2 k), P_z i] _ _ from ?_)
    refine P_aw_getv P_i126_16 hT.1.2 hT.1.1 rfl rfl (hr) (show P_aw _ _ _ 19 [.ref (w.2.2 k), P_z c, P_z df, P_z i] [P_z rw, P_z i] _ _ from ?_)
    refine P_aw_ict P_i126_19 ⟨by omega, by omega⟩ ⟨by omega, by omega⟩ (P_ci_get (by omega)) (show P_aw _ _ _ 41 [.ref (w.2.2 k), P_z c, P_z df, P_z i] [] _ _ from ?_)
    have e : i = rw := (by omega); subst e; exact q
  | succ n ih =>
    intro i df hv0 hv1 q
    refine P_aw_op (L' := [.ref (w.2.2 k), P_z c, P_z df, P_z i]) (st' := [P_z i]) P_i126_14 rfl (show P_aw _ _ _ 15 [.ref (w.2.2 k), P_z c, P_z df, P_z i] [P_z i] _ _ from ?_)
    refine P_aw_op (L' := [.ref (w.2.2 k), P_z c, P_z df, P_z i]) (st' := [.ref (w.2.2 k), P_z i]) P_i126_15 rfl (show P_aw _ _ _ 16 [.ref (w.2.2 k), P_z c, P_z df, P_z i] [.ref (w.2.2 k), P_z i] _ _ from ?_)
    refine P_aw_getv P_i126_16 hT.1.2 hT.1.1 rfl rfl (hr) (show P_aw _ _ _ 19 [.ref (w.2.2 k), P_z c, P_z df, P_z i] [P_z rw, P_z i] _ _ from ?_)
    refine P_aw_icf P_i126_19 ⟨by omega, by omega⟩ ⟨by omega, by omega⟩ (P_ci_gef (by omega)) (show P_aw _ _ _ 22 [.ref (w.2.2 k), P_z c, P_z df, P_z i] [] _ _ from ?_)
    refine P_aw_op (L' := [.ref (w.2.2 k), P_z c, P_z df, P_z i]) (st' := [.ref (w.2.2 k)]) P_i126_22 rfl (show P_aw _ _ _ 23 [.ref (w.2.2 k), P_z c, P_z df, P_z i] [.ref (w.2.2 k)] _ _ from ?_)
    refine P_aw_op (L' := [.ref (w.2.2 k), P_z c, P_z df, P_z i]) (st' := [P_z i, .ref (w.2.2 k)]) P_i126_23 rfl (show P_aw _ _ _ 24 [.ref (w.2.2 k), P_z c, P_z df, P_z i] [P_z i, .ref (w.2.2 k)] _ _ from ?_)
    refine P_aw_op (L' := [.ref (w.2.2 k), P_z c, P_z df, P_z i]) (st' := [P_z c, P_z i, .ref (w.2.2 k)]) P_i126_24 rfl (show P_aw _ _ _ 25 [.ref (w.2.2 k), P_z c, P_z df, P_z i] [P_z c, P_z i, .ref (w.2.2 k)] _ _ from ?_)
    have hf1 : 0 ≤ (P_fa f i i.toNat 0) ∧ (P_fa f i i.toNat 0) ≤ i := P_fa_rg _ _ (by omega) (by omega)
    refine P_aw_call P_i126_25 rfl rfl (fun _ => rfl) rfl rfl rfl rfl (y2 := 127) (as := [.ref (w.2.2 k), P_z i, P_z c]) (r0 := []) (P_inv_v hT.1.2 hT.1.1 rfl rfl) (Nat.le_of_ble_eq_true rfl) (by decide) rfl (Nat.le_of_ble_eq_true rfl) (s_fa hw hT hr hc hf hg ht hcc (by omega) ?_)
    show P_aw _ _ _ 28 [.ref (w.2.2 k), P_z c, P_z df, P_z i] [P_z (P_fa f i i.toNat 0)] _ _
    refine P_aw_op (L' := [.ref (w.2.2 k), P_z c, P_z df, P_z i]) (st' := [P_z i, P_z (P_fa f i i.toNat 0)]) P_i126_28 rfl (show P_aw _ _ _ 29 [.ref (w.2.2 k), P_z c, P_z df, P_z i] [P_z i, P_z (P_fa f i i.toNat 0)] _ _ from ?_)
    by_cases hc2 : (P_fa f i i.toNat 0) = i
    · refine P_aw_icf P_i126_29 ⟨by omega, by omega⟩ ⟨by omega, by omega⟩ (P_ci_nef (by omega)) (show P_aw _ _ _ 32 [.ref (w.2.2 k), P_z c, P_z df, P_z i] [] _ _ from ?_)
      refine P_aw_op (L' := [.ref (w.2.2 k), P_z c, P_z (df + 1), P_z i]) (st' := []) P_i126_32 (P_o_iinc rfl) (show P_aw _ _ _ 35 [.ref (w.2.2 k), P_z c, P_z (df + 1), P_z i] [] _ _ from ?_)
      refine P_aw_op (L' := [.ref (w.2.2 k), P_z c, P_z (df + 1), P_z (i + 1)]) (st' := []) P_i126_35 (P_o_iinc rfl) (show P_aw _ _ _ 38 [.ref (w.2.2 k), P_z c, P_z (df + 1), P_z (i + 1)] [] _ _ from ?_)
      refine P_aw_goto P_i126_38 (show P_aw _ _ _ 14 [.ref (w.2.2 k), P_z c, P_z (df + 1), P_z (i + 1)] [] _ _ from ?_)
      exact ih (i + 1) (df + 1) (by omega) (by omega) (by simp only [P_dv] at q; first | (rw [if_pos (by omega)] at q; exact q) | (rw [if_neg (by omega)] at q; exact q))
    · refine P_aw_ict P_i126_29 ⟨by omega, by omega⟩ ⟨by omega, by omega⟩ (P_ci_net (by omega)) (show P_aw _ _ _ 35 [.ref (w.2.2 k), P_z c, P_z df, P_z i] [] _ _ from ?_)
      refine P_aw_op (L' := [.ref (w.2.2 k), P_z c, P_z df, P_z (i + 1)]) (st' := []) P_i126_35 (P_o_iinc rfl) (show P_aw _ _ _ 38 [.ref (w.2.2 k), P_z c, P_z df, P_z (i + 1)] [] _ _ from ?_)
      refine P_aw_goto P_i126_38 (show P_aw _ _ _ 14 [.ref (w.2.2 k), P_z c, P_z df, P_z (i + 1)] [] _ _ from ?_)
      exact ih (i + 1) df (by omega) (by omega) (by simp only [P_dv] at q; first | (rw [if_pos (by omega)] at q; exact q) | (rw [if_neg (by omega)] at q; exact q))

theorem s_cvo {w : P_Lw} (hw : P_Cw w) {d : Nat} {Q : P_R → P_A → Prop} {σ : P_A} {k : Nat} (hT : P_isT w k) {rw cl : Int} {V : Int → Int → Int} (hr : σ k 3 = rw) (hc : σ k 0 = cl) (hf : ∀ c j, 0 ≤ c → c < cl → 0 ≤ j → j < rw → σ (k + 1) ((j * 3) + c).toNat = V c j) (hg : ∀ c j, 0 ≤ c → c < cl → 0 ≤ j → j < rw → -2147483648 ≤ V c j ∧ V c j ≤ 2147483647) (ht : 0 ≤ rw ∧ rw ≤ 14 ∧ 0 ≤ cl ∧ cl ≤ 3) : ∀ (n : Nat) (c : Int), (0 ≤ c ∧ c ≤ cl) → (cl = c + (n : Nat)) → Q (.inl none) (P_cv σ k cl (fun c => P_dv (V c) rw.toNat 0 0)) → P_aw w (d + 3) 126 2 [.ref (w.2.2 k), P_z c, P_un, P_un] [] (P_cv σ k c (fun c => P_dv (V c) rw.toNat 0 0)) Q := by
  intro n
  induction n with
  | zero =>
    intro c hv0 hv1 q
    refine P_aw_op (L' := [.ref (w.2.2 k), P_z c, P_un, P_un]) (st' := [P_z c]) P_i126_2 rfl (show P_aw _ _ _ 3 [.ref (w.2.2 k), P_z c, P_un, P_un] [P_z c] _ _ from ?_)
    refine P_aw_op (L' := [.ref (w.2.2 k), P_z c, P_un, P_un]) (st' := [.ref (w.2.2 k), P_z c]) P_i126_3 rfl (show P_aw _ _ _ 4 [.ref (w.2.2 k), P_z c, P_un, P_un] [.ref (w.2.2 k), P_z c] _ _ from ?_)
    refine P_aw_getv P_i126_4 hT.1.2 hT.1.1 rfl rfl ((P_cv_ne (by omega)).trans (hc)) (show P_aw _ _ _ 7 [.ref (w.2.2 k), P_z c, P_un, P_un] [P_z cl, P_z c] _ _ from ?_)
    refine P_aw_ict P_i126_7 ⟨by omega, by omega⟩ ⟨by omega, by omega⟩ (P_ci_get (by omega)) (show P_aw _ _ _ 56 [.ref (w.2.2 k), P_z c, P_un, P_un] [] _ _ from ?_)
    refine P_aw_end P_i126_56 rfl rfl (fun _ => rfl) rfl ?_
    have e : c = cl := (by omega); subst e; exact q
  | succ n ih =>
    intro c hv0 hv1 q
    refine P_aw_op (L' := [.ref (w.2.2 k), P_z c, P_un, P_un]) (st' := [P_z c]) P_i126_2 rfl (show P_aw _ _ _ 3 [.ref (w.2.2 k), P_z c, P_un, P_un] [P_z c] _ _ from ?_)
    refine P_aw_op (L' := [.ref (w.2.2 k), P_z c, P_un, P_un]) (st' := [.ref (w.2.2 k), P_z c]) P_i126_3 rfl (show P_aw _ _ _ 4 [.ref (w.2.2 k), P_z c, P_un, P_un] [.ref (w.2.2 k), P_z c] _ _ from ?_)
    refine P_aw_getv P_i126_4 hT.1.2 hT.1.1 rfl rfl ((P_cv_ne (by omega)).trans (hc)) (show P_aw _ _ _ 7 [.ref (w.2.2 k), P_z c, P_un, P_un] [P_z cl, P_z c] _ _ from ?_)
    refine P_aw_icf P_i126_7 ⟨by omega, by omega⟩ ⟨by omega, by omega⟩ (P_ci_gef (by omega)) (show P_aw _ _ _ 10 [.ref (w.2.2 k), P_z c, P_un, P_un] [] _ _ from ?_)
    refine P_aw_op (L' := [.ref (w.2.2 k), P_z c, P_un, P_un]) (st' := [P_z 0]) P_i126_10 rfl (show P_aw _ _ _ 11 [.ref (w.2.2 k), P_z c, P_un, P_un] [P_z 0] _ _ from ?_)
    refine P_aw_op (L' := [.ref (w.2.2 k), P_z c, P_z 0, P_un]) (st' := []) P_i126_11 rfl (show P_aw _ _ _ 12 [.ref (w.2.2 k), P_z c, P_z 0, P_un] [] _ _ from ?_)
    refine P_aw_op (L' := [.ref (w.2.2 k), P_z c, P_z 0, P_un]) (st' := [P_z 0]) P_i126_12 rfl (show P_aw _ _ _ 13 [.ref (w.2.2 k), P_z c, P_z 0, P_un] [P_z 0] _ _ from ?_)
    refine P_aw_op (L' := [.ref (w.2.2 k), P_z c, P_z 0, P_z 0]) (st' := []) P_i126_13 rfl (show P_aw _ _ _ 14 [.ref (w.2.2 k), P_z c, P_z 0, P_z 0] [] _ _ from ?_)
    refine s_cvi (f := V c) (c := c) hw hT ((P_cv_ne (by omega)).trans hr) ((P_cv_ne (by omega)).trans hc) (fun j h1 h2 => (P_cv_ne (by omega)).trans (hf _ j (by omega) (by omega) h1 h2)) (fun j h1 h2 => hg _ j (by omega) (by omega) h1 h2) ht (by omega) rw.toNat 0 0 (by omega) (by omega) ?_
    refine P_aw_op (L' := [.ref (w.2.2 k), P_z c, P_z (P_dv (V c) rw.toNat 0 0), P_z rw]) (st' := [.ref (w.2.2 k)]) P_i126_41 rfl (show P_aw _ _ _ 42 [.ref (w.2.2 k), P_z c, P_z (P_dv (V c) rw.toNat 0 0), P_z rw] [.ref (w.2.2 k)] _ _ from ?_)
    refine P_aw_getR P_i126_42 hT.1.2 hT.1.1 rfl rfl (show P_aw _ _ _ 45 [.ref (w.2.2 k), P_z c, P_z (P_dv (V c) rw.toNat 0 0), P_z rw] [.ref (w.2.2 (k + 2))] _ _ from ?_)
    refine P_aw_op (L' := [.ref (w.2.2 k), P_z c, P_z (P_dv (V c) rw.toNat 0 0), P_z rw]) (st' := [P_z c, .ref (w.2.2 (k + 2))]) P_i126_45 rfl (show P_aw _ _ _ 46 [.ref (w.2.2 k), P_z c, P_z (P_dv (V c) rw.toNat 0 0), P_z rw] [P_z c, .ref (w.2.2 (k + 2))] _ _ from ?_)
    refine P_aw_op (L' := [.ref (w.2.2 k), P_z c, P_z (P_dv (V c) rw.toNat 0 0), P_z rw]) (st' := [P_z (P_dv (V c) rw.toNat 0 0), P_z c, .ref (w.2.2 (k + 2))]) P_i126_46 rfl (show P_aw _ _ _ 47 [.ref (w.2.2 k), P_z c, P_z (P_dv (V c) rw.toNat 0 0), P_z rw] [P_z (P_dv (V c) rw.toNat 0 0), P_z c, .ref (w.2.2 (k + 2))] _ _ from ?_)
    refine P_aw_call P_i126_47 rfl rfl (fun _ => rfl) rfl rfl rfl rfl (y2 := 179) (as := [.ref (w.2.2 (k + 2)), P_z c, P_z (P_dv (V c) rw.toNat 0 0)]) (r0 := []) (fun _ _ => rfl) (Nat.le_of_ble_eq_true rfl) (by decide) rfl (Nat.le_of_ble_eq_true rfl) (show P_aw _ _ _ 0 [.ref (w.2.2 (k + 2)), P_z c, P_z (P_dv (V c) rw.toNat 0 0)] [] _ _ from ?_)
    refine P_aw_op (L' := [.ref (w.2.2 (k + 2)), P_z c, P_z (P_dv (V c) rw.toNat 0 0)]) (st' := [P_z c]) P_i179_0 rfl (show P_aw _ _ _ 1 [.ref (w.2.2 (k + 2)), P_z c, P_z (P_dv (V c) rw.toNat 0 0)] [P_z c] _ _ from ?_)
    refine P_aw_izf P_i179_1 ⟨by omega, by omega⟩ (P_ci_ltf (by omega)) (show P_aw _ _ _ 4 [.ref (w.2.2 (k + 2)), P_z c, P_z (P_dv (V c) rw.toNat 0 0)] [] _ _ from ?_)
    refine P_aw_op (L' := [.ref (w.2.2 (k + 2)), P_z c, P_z (P_dv (V c) rw.toNat 0 0)]) (st' := [P_z c]) P_i179_4 rfl (show P_aw _ _ _ 5 [.ref (w.2.2 (k + 2)), P_z c, P_z (P_dv (V c) rw.toNat 0 0)] [P_z c] _ _ from ?_)
    refine P_aw_op (L' := [.ref (w.2.2 (k + 2)), P_z c, P_z (P_dv (V c) rw.toNat 0 0)]) (st' := [.ref (w.2.2 (k + 2)), P_z c]) P_i179_5 rfl (show P_aw _ _ _ 6 [.ref (w.2.2 (k + 2)), P_z c, P_z (P_dv (V c) rw.toNat 0 0)] [.ref (w.2.2 (k + 2)), P_z c] _ _ from ?_)
    refine P_aw_alen P_i179_6 hT.2.2.2 hT.2.2.1 (show P_aw _ _ _ 7 [.ref (w.2.2 (k + 2)), P_z c, P_z (P_dv (V c) rw.toNat 0 0)] [P_z 3, P_z c] _ _ from ?_)
    refine P_aw_icf P_i179_7 ⟨by omega, by omega⟩ ⟨by decide, by decide⟩ (P_ci_gef (by omega)) (show P_aw _ _ _ 10 [.ref (w.2.2 (k + 2)), P_z c, P_z (P_dv (V c) rw.toNat 0 0)] [] _ _ from ?_)
    refine P_aw_op (L' := [.ref (w.2.2 (k + 2)), P_z c, P_z (P_dv (V c) rw.toNat 0 0)]) (st' := [.ref (w.2.2 (k + 2))]) P_i179_10 rfl (show P_aw _ _ _ 11 [.ref (w.2.2 (k + 2)), P_z c, P_z (P_dv (V c) rw.toNat 0 0)] [.ref (w.2.2 (k + 2))] _ _ from ?_)
    refine P_aw_op (L' := [.ref (w.2.2 (k + 2)), P_z c, P_z (P_dv (V c) rw.toNat 0 0)]) (st' := [P_z c, .ref (w.2.2 (k + 2))]) P_i179_11 rfl (show P_aw _ _ _ 12 [.ref (w.2.2 (k + 2)), P_z c, P_z (P_dv (V c) rw.toNat 0 0)] [P_z c, .ref (w.2.2 (k + 2))] _ _ from ?_)
    refine P_aw_op (L' := [.ref (w.2.2 (k + 2)), P_z c, P_z (P_dv (V c) rw.toNat 0 0)]) (st' := [P_z (P_dv (V c) rw.toNat 0 0), P_z c, .ref (w.2.2 (k + 2))]) P_i179_12 rfl (show P_aw _ _ _ 13 [.ref (w.2.2 (k + 2)), P_z c, P_z (P_dv (V c) rw.toNat 0 0)] [P_z (P_dv (V c) rw.toNat 0 0), P_z c, .ref (w.2.2 (k + 2))] _ _ from ?_)
    refine P_aw_ast P_i179_13 hT.2.2.2 hT.2.2.1 (by omega) (by omega) (by decide) (show P_aw _ _ _ 14 [.ref (w.2.2 (k + 2)), P_z c, P_z (P_dv (V c) rw.toNat 0 0)] [] _ _ from ?_)
    refine P_aw_end P_i179_14 rfl rfl (fun _ => rfl) rfl ?_
    show P_aw _ _ _ 50 [.ref (w.2.2 k), P_z c, P_z (P_dv (V c) rw.toNat 0 0), P_z rw] [] _ _
    refine P_aw_op (L' := [.ref (w.2.2 k), P_z (c + 1), P_z (P_dv (V c) rw.toNat 0 0), P_z rw]) (st' := []) P_i126_50 (P_o_iinc rfl) (show P_aw _ _ _ 53 [.ref (w.2.2 k), P_z (c + 1), P_z (P_dv (V c) rw.toNat 0 0), P_z rw] [] _ _ from ?_)
    refine P_aw_goto P_i126_53 (show P_aw _ _ _ 2 [.ref (w.2.2 k), P_z (c + 1), P_un, P_un] [] _ _ from ?_)
    refine P_aws (P_cv_step (g := (fun c => P_dv (V c) rw.toNat 0 0)) (by omega)) ?_; exact ih (c + 1) (by omega) (by omega) q

/-- countVarieties -/
theorem s_cv {w : P_Lw} (hw : P_Cw w) {d : Nat} {Q : P_R → P_A → Prop} {σ : P_A} {k : Nat} (hT : P_isT w k) {rw cl : Int} {V : Int → Int → Int} (hr : σ k 3 = rw) (hc : σ k 0 = cl) (hf : ∀ c j, 0 ≤ c → c < cl → 0 ≤ j → j < rw → σ (k + 1) ((j * 3) + c).toNat = V c j) (hg : ∀ c j, 0 ≤ c → c < cl → 0 ≤ j → j < rw → -2147483648 ≤ V c j ∧ V c j ≤ 2147483647) (ht : 0 ≤ rw ∧ rw ≤ 14 ∧ 0 ≤ cl ∧ cl ≤ 3) (q : Q (.inl none) (P_cv σ k cl (fun c => P_dv (V c) rw.toNat 0 0))) : P_aw w (d + 3) 126 0 [.ref (w.2.2 k), P_un, P_un, P_un] [] σ Q := by
  refine P_aw_op (L' := [.ref (w.2.2 k), P_un, P_un, P_un]) (st' := [P_z 0]) P_i126_0 rfl (show P_aw _ _ _ 1 [.ref (w.2.2 k), P_un, P_un, P_un] [P_z 0] _ _ from ?_)
  refine P_aw_op (L' := [.ref (w.2.2 k), P_z 0, P_un, P_un]) (st' := []) P_i126_1 rfl (show P_aw _ _ _ 2 [.ref (w.2.2 k), P_z 0, P_un, P_un] [] _ _ from ?_)
  refine P_aws (σ' := P_cv σ k 0 (fun c => P_dv (V c) rw.toNat 0 0)) P_cv_0.symm ?_; exact s_cvo hw hT hr hc hf hg ht cl.toNat 0 (by omega) (by omega) q

/-- three values behind the rows -/
def P_w3 (σ : P_A) (k : Nat) (rw a b e : Int) : P_A := P_u2 (P_u2 (P_u2 (P_u2 σ (k + 1) (rw * 3).toNat a) (k + 1) ((rw * 3) + 1).toNat b) (k + 1) ((rw * 3) + 2).toNat e) k 3 (rw + 1)
theorem P_w3_row {σ : P_A} {k : Nat} {rw cl a b e : Int} {V V' : Int → Int → Int} (hf : ∀ c j, 0 ≤ c → c < cl → 0 ≤ j → j < rw → σ (k + 1) ((j * 3) + c).toNat = V c j) (hr0 : 0 ≤ rw) (hcl : cl ≤ 3) (hV : ∀ c j, V' c j = if j = rw then (if c = 0 then a else if c = 1 then b else e) else V c j) :
    ∀ c j, 0 ≤ c → c < cl → 0 ≤ j → j < rw + 1 → P_w3 σ k rw a b e (k + 1) ((j * 3) + c).toNat = V' c j := by
  intro c j h1 h2 h3 h4
  rw [hV]
  unfold P_w3
  rw [P_u2_ne (by omega)]
  by_cases hj : j = rw
  · subst hj
    rw [if_pos rfl]
    have hc : c = 0 ∨ c = 1 ∨ c = 2 := by omega
    rcases hc with rfl | rfl | rfl
    · rw [P_u2_ne (by omega), P_u2_ne (by omega), Int.add_zero, P_u2_at, if_pos rfl]
    · rw [P_u2_ne (by omega), P_u2_at, if_neg (by omega), if_pos rfl]
    · rw [P_u2_at, if_neg (by omega), if_neg (by omega)]
  · rw [if_neg hj, P_u2_ne (by omega), P_u2_ne (by omega), P_u2_ne (by omega)]
    exact hf c j h1 h2 h3 (by omega)

theorem s_add {w : P_Lw} (hw : P_Cw w) {d : Nat} {Q : P_R → P_A → Prop} {σ : P_A} {k : Nat} (hT : P_isT w k) {rw cl : Int} {V : Int → Int → Int} (hr : σ k 3 = rw) (hc : σ k 0 = cl) (hf : ∀ c j, 0 ≤ c → c < cl → 0 ≤ j → j < rw → σ (k + 1) ((j * 3) + c).toNat = V c j) (hg : ∀ c j, 0 ≤ c → c < cl → 0 ≤ j → j < rw → -2147483648 ≤ V c j ∧ V c j ≤ 2147483647) (ht : 0 ≤ rw ∧ rw ≤ 14 ∧ 0 ≤ cl ∧ cl ≤ 3) {V' : Int → Int → Int} {a b e : Int} (hV : ∀ c j, V' c j = if j = rw then (if c = 0 then a else if c = 1 then b else e) else V c j) (hg' : ∀ c j, 0 ≤ c → c < cl → 0 ≤ j → j < rw + 1 → -2147483648 ≤ V' c j ∧ V' c j ≤ 2147483647) (hr13 : rw ≤ 13) (q : Q (.inl none) (P_cv (P_w3 σ k rw a b e) k cl (fun c => P_dv (V' c) (rw + 1).toNat 0 0))) : P_aw w (d + 4) 123 0 [.ref (w.2.2 k), P_z a, P_z b, P_z e, P_un] [] σ Q := by
  refine P_aw_op (L' := [.ref (w.2.2 k), P_z a, P_z b, P_z e, P_un]) (st' := [.ref (w.2.2 k)]) P_i123_0 rfl (show P_aw _ _ _ 1 [.ref (w.2.2 k), P_z a, P_z b, P_z e, P_un] [.ref (w.2.2 k)] _ _ from ?_)
  refine P_aw_call P_i123_1 rfl rfl (fun _ => rfl) rfl rfl rfl rfl (y2 := 121) (as := [.ref (w.2.2 k)]) (r0 := []) (P_inv_v hT.1.2 hT.1.1 rfl rfl) (Nat.le_of_ble_eq_true rfl) (by decide) rfl (Nat.le_of_ble_eq_true rfl) (show P_aw _ _ _ 0 [.ref (w.2.2 k)] [] _ _ from ?_)
  refine P_aw_op (L' := [.ref (w.2.2 k)]) (st' := [.ref (w.2.2 k)]) P_i121_0 rfl (show P_aw _ _ _ 1 [.ref (w.2.2 k)] [.ref (w.2.2 k)] _ _ from ?_)
  refine P_aw_getv P_i121_1 hT.1.2 hT.1.1 rfl rfl (hr) (show P_aw _ _ _ 4 [.ref (w.2.2 k)] [P_z rw] _ _ from ?_)
  refine P_aw_op (L' := [.ref (w.2.2 k)]) (st' := [P_z 14, P_z rw]) P_i121_4 (P_o_bi (by decide)) (show P_aw _ _ _ 6 [.ref (w.2.2 k)] [P_z 14, P_z rw] _ _ from ?_)
  refine P_aw_ict P_i121_6 ⟨by omega, by omega⟩ ⟨by decide, by decide⟩ (P_ci_ltt (by omega)) (show P_aw _ _ _ 13 [.ref (w.2.2 k)] [] _ _ from ?_)
  refine P_aw_op (L' := [.ref (w.2.2 k)]) (st' := [P_z 0]) P_i121_13 rfl (show P_aw _ _ _ 14 [.ref (w.2.2 k)] [P_z 0] _ _ from ?_)
  refine P_aw_end P_i121_14 rfl rfl (fun _ => rfl) rfl ?_
  show P_aw _ _ _ 4 [.ref (w.2.2 k), P_z a, P_z b, P_z e, P_un] [P_z 0] _ _
  refine P_aw_izt P_i123_4 ⟨by decide, by decide⟩ (P_ci_eqt (by omega)) (show P_aw _ _ _ 8 [.ref (w.2.2 k), P_z a, P_z b, P_z e, P_un] [] _ _ from ?_)
  refine P_aw_op (L' := [.ref (w.2.2 k), P_z a, P_z b, P_z e, P_un]) (st' := [.ref (w.2.2 k)]) P_i123_8 rfl (show P_aw _ _ _ 9 [.ref (w.2.2 k), P_z a, P_z b, P_z e, P_un] [.ref (w.2.2 k)] _ _ from ?_)
  refine P_aw_getv P_i123_9 hT.1.2 hT.1.1 rfl rfl (hr) (show P_aw _ _ _ 12 [.ref (w.2.2 k), P_z a, P_z b, P_z e, P_un] [P_z rw] _ _ from ?_)
  refine P_aw_op (L' := [.ref (w.2.2 k), P_z a, P_z b, P_z e, P_un]) (st' := [P_z 3, P_z rw]) P_i123_12 rfl (show P_aw _ _ _ 13 [.ref (w.2.2 k), P_z a, P_z b, P_z e, P_un] [P_z 3, P_z rw] _ _ from ?_)
  refine P_aw_op (L' := [.ref (w.2.2 k), P_z a, P_z b, P_z e, P_un]) (st' := [P_z (rw * 3)]) P_i123_13 P_o_imul (show P_aw _ _ _ 14 [.ref (w.2.2 k), P_z a, P_z b, P_z e, P_un] [P_z (rw * 3)] _ _ from ?_)
  refine P_aw_op (L' := [.ref (w.2.2 k), P_z a, P_z b, P_z e, P_z (rw * 3)]) (st' := []) P_i123_14 rfl (show P_aw _ _ _ 16 [.ref (w.2.2 k), P_z a, P_z b, P_z e, P_z (rw * 3)] [] _ _ from ?_)
  refine P_aw_op (L' := [.ref (w.2.2 k), P_z a, P_z b, P_z e, P_z (rw * 3)]) (st' := [.ref (w.2.2 k)]) P_i123_16 rfl (show P_aw _ _ _ 17 [.ref (w.2.2 k), P_z a, P_z b, P_z e, P_z (rw * 3)] [.ref (w.2.2 k)] _ _ from ?_)
  refine P_aw_getR P_i123_17 hT.1.2 hT.1.1 rfl rfl (show P_aw _ _ _ 20 [.ref (w.2.2 k), P_z a, P_z b, P_z e, P_z (rw * 3)] [.ref (w.2.2 (k + 1))] _ _ from ?_)
  refine P_aw_op (L' := [.ref (w.2.2 k), P_z a, P_z b, P_z e, P_z (rw * 3)]) (st' := [P_z (rw * 3), .ref (w.2.2 (k + 1))]) P_i123_20 rfl (show P_aw _ _ _ 22 [.ref (w.2.2 k), P_z a, P_z b, P_z e, P_z (rw * 3)] [P_z (rw * 3), .ref (w.2.2 (k + 1))] _ _ from ?_)
  refine P_aw_op (L' := [.ref (w.2.2 k), P_z a, P_z b, P_z e, P_z (rw * 3)]) (st' := [P_z a, P_z (rw * 3), .ref (w.2.2 (k + 1))]) P_i123_22 rfl (show P_aw _ _ _ 23 [.ref (w.2.2 k), P_z a, P_z b, P_z e, P_z (rw * 3)] [P_z a, P_z (rw * 3), .ref (w.2.2 (k + 1))] _ _ from ?_)
  refine P_aw_call P_i123_23 rfl rfl (fun _ => rfl) rfl rfl rfl rfl (y2 := 179) (as := [.ref (w.2.2 (k + 1)), P_z (rw * 3), P_z a]) (r0 := []) (fun _ _ => rfl) (Nat.le_of_ble_eq_true rfl) (by decide) rfl (Nat.le_of_ble_eq_true rfl) (show P_aw _ _ _ 0 [.ref (w.2.2 (k + 1)), P_z (rw * 3), P_z a] [] _ _ from ?_)
  refine P_aw_op (L' := [.ref (w.2.2 (k + 1)), P_z (rw * 3), P_z a]) (st' := [P_z (rw * 3)]) P_i179_0 rfl (show P_aw _ _ _ 1 [.ref (w.2.2 (k + 1)), P_z (rw * 3), P_z a] [P_z (rw * 3)] _ _ from ?_)
  refine P_aw_izf P_i179_1 ⟨by omega, by omega⟩ (P_ci_ltf (by omega)) (show P_aw _ _ _ 4 [.ref (w.2.2 (k + 1)), P_z (rw * 3), P_z a] [] _ _ from ?_)
  refine P_aw_op (L' := [.ref (w.2.2 (k + 1)), P_z (rw * 3), P_z a]) (st' := [P_z (rw * 3)]) P_i179_4 rfl (show P_aw _ _ _ 5 [.ref (w.2.2 (k + 1)), P_z (rw * 3), P_z a] [P_z (rw * 3)] _ _ from ?_)
  refine P_aw_op (L' := [.ref (w.2.2 (k + 1)), P_z (rw * 3), P_z a]) (st' := [.ref (w.2.2 (k + 1)), P_z (rw * 3)]) P_i179_5 rfl (show P_aw _ _ _ 6 [.ref (w.2.2 (k + 1)), P_z (rw * 3), P_z a] [.ref (w.2.2 (k + 1)), P_z (rw * 3)] _ _ from ?_)
  refine P_aw_alen P_i179_6 hT.2.1.2 hT.2.1.1 (show P_aw _ _ _ 7 [.ref (w.2.2 (k + 1)), P_z (rw * 3), P_z a] [P_z 42, P_z (rw * 3)] _ _ from ?_)
  refine P_aw_icf P_i179_7 ⟨by omega, by omega⟩ ⟨by decide, by decide⟩ (P_ci_gef (by omega)) (show P_aw _ _ _ 10 [.ref (w.2.2 (k + 1)), P_z (rw * 3), P_z a] [] _ _ from ?_)
  refine P_aw_op (L' := [.ref (w.2.2 (k + 1)), P_z (rw * 3), P_z a]) (st' := [.ref (w.2.2 (k + 1))]) P_i179_10 rfl (show P_aw _ _ _ 11 [.ref (w.2.2 (k + 1)), P_z (rw * 3), P_z a] [.ref (w.2.2 (k + 1))] _ _ from ?_)
  refine P_aw_op (L' := [.ref (w.2.2 (k + 1)), P_z (rw * 3), P_z a]) (st' := [P_z (rw * 3), .ref (w.2.2 (k + 1))]) P_i179_11 rfl (show P_aw _ _ _ 12 [.ref (w.2.2 (k + 1)), P_z (rw * 3), P_z a] [P_z (rw * 3), .ref (w.2.2 (k + 1))] _ _ from ?_)
  refine P_aw_op (L' := [.ref (w.2.2 (k + 1)), P_z (rw * 3), P_z a]) (st' := [P_z a, P_z (rw * 3), .ref (w.2.2 (k + 1))]) P_i179_12 rfl (show P_aw _ _ _ 13 [.ref (w.2.2 (k + 1)), P_z (rw * 3), P_z a] [P_z a, P_z (rw * 3), .ref (w.2.2 (k + 1))] _ _ from ?_)
  refine P_aw_ast P_i179_13 hT.2.1.2 hT.2.1.1 (by omega) (by omega) (by decide) (show P_aw _ _ _ 14 [.ref (w.2.2 (k + 1)), P_z (rw * 3), P_z a] [] _ _ from ?_)
  refine P_aw_end P_i179_14 rfl rfl (fun _ => rfl) rfl ?_
  show P_aw _ _ _ 26 [.ref (w.2.2 k), P_z a, P_z b, P_z e, P_z (rw * 3)] [] _ _
  refine P_aw_op (L' := [.ref (w.2.2 k), P_z a, P_z b, P_z e, P_z (rw * 3)]) (st' := [.ref (w.2.2 k)]) P_i123_26 rfl (show P_aw _ _ _ 27 [.ref (w.2.2 k), P_z a, P_z b, P_z e, P_z (rw * 3)] [.ref (w.2.2 k)] _ _ from ?_)
  refine P_aw_getR P_i123_27 hT.1.2 hT.1.1 rfl rfl (show P_aw _ _ _ 30 [.ref (w.2.2 k), P_z a, P_z b, P_z e, P_z (rw * 3)] [.ref (w.2.2 (k + 1))] _ _ from ?_)
  refine P_aw_op (L' := [.ref (w.2.2 k), P_z a, P_z b, P_z e, P_z (rw * 3)]) (st' := [P_z (rw * 3), .ref (w.2.2 (k + 1))]) P_i123_30 rfl (show P_aw _ _ _ 32 [.ref (w.2.2 k), P_z a, P_z b, P_z e, P_z (rw * 3)] [P_z (rw * 3), .ref (w.2.2 (k + 1))] _ _ from ?_)
  refine P_aw_op (L' := [.ref (w.2.2 k), P_z a, P_z b, P_z e, P_z (rw * 3)]) (st' := [P_z 1, P_z (rw * 3), .ref (w.2.2 (k + 1))]) P_i123_32 rfl (show P_aw _ _ _ 33 [.ref (w.2.2 k), P_z a, P_z b, P_z e, P_z (rw * 3)] [P_z 1, P_z (rw * 3), .ref (w.2.2 (k + 1))] _ _ from ?_)
  refine P_aw_op (L' := [.ref (w.2.2 k), P_z a, P_z b, P_z e, P_z (rw * 3)]) (st' := [P_z ((rw * 3) + 1), .ref (w.2.2 (k + 1))]) P_i123_33 P_o_iadd (show P_aw _ _ _ 34 [.ref (w.2.2 k), P_z a, P_z b, P_z e, P_z (rw * 3)] [P_z ((rw * 3) + 1), .ref (w.2.2 (k + 1))] _ _ from ?_)
  refine P_aw_op (L' := [.ref (w.2.2 k), P_z a, P_z b, P_z e, P_z (rw * 3)]) (st' := [P_z b, P_z ((rw * 3) + 1), .ref (w.2.2 (k + 1))]) P_i123_34 rfl (show P_aw _ _ _ 35 [.ref (w.2.2 k), P_z a, P_z b, P_z e, P_z (rw * 3)] [P_z b, P_z ((rw * 3) + 1), .ref (w.2.2 (k + 1))] _ _ from ?_)
  refine P_aw_call P_i123_35 rfl rfl (fun _ => rfl) rfl rfl rfl rfl (y2 := 179) (as := [.ref (w.2.2 (k + 1)), P_z ((rw * 3) + 1), P_z b]) (r0 := []) (fun _ _ => rfl) (Nat.le_of_ble_eq_true rfl) (by decide) rfl (Nat.le_of_ble_eq_true rfl) (show P_aw _ _ _ 0 [.ref (w.2.2 (k + 1)), P_z ((rw * 3) + 1), P_z b] [] _ _ from ?_)
  refine P_aw_op (L' := [.ref (w.2.2 (k + 1)), P_z ((rw * 3) + 1), P_z b]) (st' := [P_z ((rw * 3) + 1)]) P_i179_0 rfl (show P_aw _ _ _ 1 [.ref (w.2.2 (k + 1)), P_z ((rw * 3) + 1), P_z b] [P_z ((rw * 3) + 1)] _ _ from ?_)
  refine P_aw_izf P_i179_1 ⟨by omega, by omega⟩ (P_ci_ltf (by omega)) (show P_aw _ _ _ 4 [.ref (w.2.2 (k + 1)), P_z ((rw * 3) + 1), P_z b] [] _ _ from ?_)
  refine P_aw_op (L' := [.ref (w.2.2 (k + 1)), P_z ((rw * 3) + 1), P_z b]) (st' := [P_z ((rw * 3) + 1)]) P_i179_4 rfl (show P_aw _ _ _ 5 [.ref (w.2.2 (k + 1)), P_z ((rw * 3) + 1), P_z b] [P_z ((rw * 3) + 1)] _ _ from ?_)
  refine P_aw_op (L' := [.ref (w.2.2 (k + 1)), P_z ((rw * 3) + 1), P_z b]) (st' := [.ref (w.2.2 (k + 1)), P_z ((rw * 3) + 1)]) P_i179_5 rfl (show P_aw _ _ _ 6 [.ref (w.2.2 (k + 1)), P_z ((rw * 3) + 1), P_z b] [.ref (w.2.2 (k + 1)), P_z ((rw * 3) + 1)] _ _ from ?_)
  refine P_aw_alen P_i179_6 hT.2.1.2 hT.2.1.1 (show P_aw _ _ _ 7 [.ref (w.2.2 (k + 1)), P_z ((rw * 3) + 1), P_z b] [P_z 42, P_z ((rw * 3) + 1)] _ _ from ?_)
  refine P_aw_icf P_i179_7 ⟨by omega, by omega⟩ ⟨by decide, by decide⟩ (P_ci_gef (by omega)) (show P_aw _ _ _ 10 [.ref (w.2.2 (k + 1)), P_z ((rw * 3) + 1), P_z b] [] _ _ from ?_)
  refine P_aw_op (L' := [.ref (w.2.2 (k + 1)), P_z ((rw * 3) + 1), P_z b]) (st' := [.ref (w.2.2 (k + 1))]) P_i179_10 rfl (show P_aw _ _ _ 11 [.ref (w.2.2 (k + 1)), P_z ((rw * 3) + 1), P_z b] [.ref (w.2.2 (k + 1))] _ _ from ?_)
  refine P_aw_op (L' := [.ref (w.2.2 (k + 1)), P_z ((rw * 3) + 1), P_z b]) (st' := [P_z ((rw * 3) + 1), .ref (w.2.2 (k + 1))]) P_i179_11 rfl (show P_aw _ _ _ 12 [.ref (w.2.2 (k + 1)), P_z ((rw * 3) + 1), P_z b] [P_z ((rw * 3) + 1), .ref (w.2.2 (k + 1))] _ _ from ?_)
  refine P_aw_op (L' := [.ref (w.2.2 (k + 1)), P_z ((rw * 3) + 1), P_z b]) (st' := [P_z b, P_z ((rw * 3) + 1), .ref (w.2.2 (k + 1))]) P_i179_12 rfl (show P_aw _ _ _ 13 [.ref (w.2.2 (k + 1)), P_z ((rw * 3) + 1), P_z b] [P_z b, P_z ((rw * 3) + 1), .ref (w.2.2 (k + 1))] _ _ from ?_)
  refine P_aw_ast P_i179_13 hT.2.1.2 hT.2.1.1 (by omega) (by omega) (by decide) (show P_aw _ _ _ 14 [.ref (w.2.2 (k + 1)), P_z ((rw * 3) + 1), P_z b] [] _ _ from ?_)
  refine P_aw_end P_i179_14 rfl rfl (fun _ => rfl) rfl ?_
  show P_aw _ _ _ 38 [.ref (w.2.2 k), P_z a, P_z b, P_z e, P_z (rw * 3)] [] _ _
  refine P_aw_op (L' := [.ref (w.2.2 k), P_z a, P_z b, P_z e, P_z (rw * 3)]) (st' := [.ref (w.2.2 k)]) P_i123_38 rfl (show P_aw _ _ _ 39 [.ref (w.2.2 k), P_z a, P_z b, P_z e, P_z (rw * 3)] [.ref (w.2.2 k)] _ _ from ?_)
  refine P_aw_getR P_i123_39 hT.1.2 hT.1.1 rfl rfl (show P_aw _ _ _ 42 [.ref (w.2.2 k), P_z a, P_z b, P_z e, P_z (rw * 3)] [.ref (w.2.2 (k + 1))] _ _ from ?_)
  refine P_aw_op (L' := [.ref (w.2.2 k), P_z a, P_z b, P_z e, P_z (rw * 3)]) (st' := [P_z (rw * 3), .ref (w.2.2 (k + 1))]) P_i123_42 rfl (show P_aw _ _ _ 44 [.ref (w.2.2 k), P_z a, P_z b, P_z e, P_z (rw * 3)] [P_z (rw * 3), .ref (w.2.2 (k + 1))] _ _ from ?_)
  refine P_aw_op (L' := [.ref (w.2.2 k), P_z a, P_z b, P_z e, P_z (rw * 3)]) (st' := [P_z 2, P_z (rw * 3), .ref (w.2.2 (k + 1))]) P_i123_44 rfl (show P_aw _ _ _ 45 [.ref (w.2.2 k), P_z a, P_z b, P_z e, P_z (rw * 3)] [P_z 2, P_z (rw * 3), .ref (w.2.2 (k + 1))] _ _ from ?_)
  refine P_aw_op (L' := [.ref (w.2.2 k), P_z a, P_z b, P_z e, P_z (rw * 3)]) (st' := [P_z ((rw * 3) + 2), .ref (w.2.2 (k + 1))]) P_i123_45 P_o_iadd (show P_aw _ _ _ 46 [.ref (w.2.2 k), P_z a, P_z b, P_z e, P_z (rw * 3)] [P_z ((rw * 3) + 2), .ref (w.2.2 (k + 1))] _ _ from ?_)
  refine P_aw_op (L' := [.ref (w.2.2 k), P_z a, P_z b, P_z e, P_z (rw * 3)]) (st' := [P_z e, P_z ((rw * 3) + 2), .ref (w.2.2 (k + 1))]) P_i123_46 rfl (show P_aw _ _ _ 47 [.ref (w.2.2 k), P_z a, P_z b, P_z e, P_z (rw * 3)] [P_z e, P_z ((rw * 3) + 2), .ref (w.2.2 (k + 1))] _ _ from ?_)
  refine P_aw_call P_i123_47 rfl rfl (fun _ => rfl) rfl rfl rfl rfl (y2 := 179) (as := [.ref (w.2.2 (k + 1)), P_z ((rw * 3) + 2), P_z e]) (r0 := []) (fun _ _ => rfl) (Nat.le_of_ble_eq_true rfl) (by decide) rfl (Nat.le_of_ble_eq_true rfl) (show P_aw _ _ _ 0 [.ref (w.2.2 (k + 1)), P_z ((rw * 3) + 2), P_z e] [] _ _ from ?_)
  refine P_aw_op (L' := [.ref (w.2.2 (k + 1)), P_z ((rw * 3) + 2), P_z e]) (st' := [P_z ((rw * 3) + 2)]) P_i179_0 rfl (show P_aw _ _ _ 1 [.ref (w.2.2 (k + 1)), P_z ((rw * 3) + 2), P_z e] [P_z ((rw * 3) + 2)] _ _ from ?_)
  refine P_aw_izf P_i179_1 ⟨by omega, by omega⟩ (P_ci_ltf (by omega)) (show P_aw _ _ _ 4 [.ref (w.2.2 (k + 1)), P_z ((rw * 3) + 2), P_z e] [] _ _ from ?_)
  refine P_aw_op (L' := [.ref (w.2.2 (k + 1)), P_z ((rw * 3) + 2), P_z e]) (st' := [P_z ((rw * 3) + 2)]) P_i179_4 rfl (show P_aw _ _ _ 5 [.ref (w.2.2 (k + 1)), P_z ((rw * 3) + 2), P_z e] [P_z ((rw * 3) + 2)] _ _ from ?_)
  refine P_aw_op (L' := [.ref (w.2.2 (k + 1)), P_z ((rw * 3) + 2), P_z e]) (st' := [.ref (w.2.2 (k + 1)), P_z ((rw * 3) + 2)]) P_i179_5 rfl (show P_aw _ _ _ 6 [.ref (w.2.2 (k + 1)), P_z ((rw * 3) + 2), P_z e] [.ref (w.2.2 (k + 1)), P_z ((rw * 3) + 2)] _ _ from ?_)
  refine P_aw_alen P_i179_6 hT.2.1.2 hT.2.1.1 (show P_aw _ _ _ 7 [.ref (w.2.2 (k + 1)), P_z ((rw * 3) + 2), P_z e] [P_z 42, P_z ((rw * 3) + 2)] _ _ from ?_)
  refine P_aw_icf P_i179_7 ⟨by omega, by omega⟩ ⟨by decide, by decide⟩ (P_ci_gef (by omega)) (show P_aw _ _ _ 10 [.ref (w.2.2 (k + 1)), P_z ((rw * 3) + 2), P_z e] [] _ _ from ?_)
  refine P_aw_op (L' := [.ref (w.2.2 (k + 1)), P_z ((rw * 3) + 2), P_z e]) (st' := [.ref (w.2.2 (k + 1))]) P_i179_10 rfl (show P_aw _ _ _ 11 [.ref (w.2.2 (k + 1)), P_z ((rw * 3) + 2), P_z e] [.ref (w.2.2 (k + 1))] _ _ from ?_)
  refine P_aw_op (L' := [.ref (w.2.2 (k + 1)), P_z ((rw * 3) + 2), P_z e]) (st' := [P_z ((rw * 3) + 2), .ref (w.2.2 (k + 1))]) P_i179_11 rfl (show P_aw _ _ _ 12 [.ref (w.2.2 (k + 1)), P_z ((rw * 3) + 2), P_z e] [P_z ((rw * 3) + 2), .ref (w.2.2 (k + 1))] _ _ from ?_)
  refine P_aw_op (L' := [.ref (w.2.2 (k + 1)), P_z ((rw * 3) + 2), P_z e]) (st' := [P_z e, P_z ((rw * 3) + 2), .ref (w.2.2 (k + 1))]) P_i179_12 rfl (show P_aw _ _ _ 13 [.ref (w.2.2 (k + 1)), P_z ((rw * 3) + 2), P_z e] [P_z e, P_z ((rw * 3) + 2), .ref (w.2.2 (k + 1))] _ _ from ?_)
  refine P_aw_ast P_i179_13 hT.2.1.2 hT.2.1.1 (by omega) (by omega) (by decide) (show P_aw _ _ _ 14 [.ref (w.2.2 (k + 1)), P_z ((rw * 3) + 2), P_z e] [] _ _ from ?_)
  refine P_aw_end P_i179_14 rfl rfl (fun _ => rfl) rfl ?_
  show P_aw _ _ _ 50 [.ref (w.2.2 k), P_z a, P_z b, P_z e, P_z (rw * 3)] [] _ _
  refine P_aw_op (L' := [.ref (w.2.2 k), P_z a, P_z b, P_z e, P_z (rw * 3)]) (st' := [.ref (w.2.2 k)]) P_i123_50 rfl (show P_aw _ _ _ 51 [.ref (w.2.2 k), P_z a, P_z b, P_z e, P_z (rw * 3)] [.ref (w.2.2 k)] _ _ from ?_)
  refine P_aw_op (L' := [.ref (w.2.2 k), P_z a, P_z b, P_z e, P_z (rw * 3)]) (st' := [.ref (w.2.2 k), .ref (w.2.2 k)]) P_i123_51 rfl (show P_aw _ _ _ 52 [.ref (w.2.2 k), P_z a, P_z b, P_z e, P_z (rw * 3)] [.ref (w.2.2 k), .ref (w.2.2 k)] _ _ from ?_)
  refine P_aw_getv P_i123_52 hT.1.2 hT.1.1 rfl rfl ((P_u2_ne (by omega)).trans ((P_u2_ne (by omega)).trans ((P_u2_ne (by omega)).trans (hr)))) (show P_aw _ _ _ 55 [.ref (w.2.2 k), P_z a, P_z b, P_z e, P_z (rw * 3)] [P_z rw, .ref (w.2.2 k)] _ _ from ?_)
  refine P_aw_op (L' := [.ref (w.2.2 k), P_z a, P_z b, P_z e, P_z (rw * 3)]) (st' := [P_z 1, P_z rw, .ref (w.2.2 k)]) P_i123_55 rfl (show P_aw _ _ _ 56 [.ref (w.2.2 k), P_z a, P_z b, P_z e, P_z (rw * 3)] [P_z 1, P_z rw, .ref (w.2.2 k)] _ _ from ?_)
  refine P_aw_op (L' := [.ref (w.2.2 k), P_z a, P_z b, P_z e, P_z (rw * 3)]) (st' := [P_z (rw + 1), .ref (w.2.2 k)]) P_i123_56 P_o_iadd (show P_aw _ _ _ 57 [.ref (w.2.2 k), P_z a, P_z b, P_z e, P_z (rw * 3)] [P_z (rw + 1), .ref (w.2.2 k)] _ _ from ?_)
  refine P_aw_put P_i123_57 hT.1.2 hT.1.1 rfl rfl rfl (show P_aw _ _ _ 60 [.ref (w.2.2 k), P_z a, P_z b, P_z e, P_z (rw * 3)] [] _ _ from ?_)
  refine P_aw_op (L' := [.ref (w.2.2 k), P_z a, P_z b, P_z e, P_z (rw * 3)]) (st' := [.ref (w.2.2 k)]) P_i123_60 rfl (show P_aw _ _ _ 61 [.ref (w.2.2 k), P_z a, P_z b, P_z e, P_z (rw * 3)] [.ref (w.2.2 k)] _ _ from ?_)
  refine P_aw_call P_i123_61 rfl rfl (fun _ => rfl) rfl rfl rfl rfl (y2 := 126) (as := [.ref (w.2.2 k)]) (r0 := []) (P_inv_v hT.1.2 hT.1.1 rfl rfl) (Nat.le_of_ble_eq_true rfl) (by decide) rfl (Nat.le_of_ble_eq_true rfl) (s_cv (V := V') (rw := rw + 1) (cl := cl) hw hT P_u2_at ((P_u2_ne (by omega)).trans ((P_u2_ne (by omega)).trans ((P_u2_ne (by omega)).trans ((P_u2_ne (by omega)).trans hc)))) (P_w3_row hf (by omega) (by omega) hV) hg' (by omega) ?_)
  show P_aw _ _ _ 64 [.ref (w.2.2 k), P_z a, P_z b, P_z e, P_z (rw * 3)] [] _ _
  refine P_aw_end P_i123_64 rfl rfl (fun _ => rfl) rfl ?_
  exact q

/-- the rows from p on brought one nearer, up to the place i -/
def P_sf (σ : P_A) (k : Nat) (p i : Int) : P_A := fun a b => if a = k + 1 ∧ p * 3 ≤ b ∧ (b : Int) < i then (if (b : Int) + 3 < 42 then σ (k + 1) (b + 3) else 0) else σ a b
theorem P_sf_ne {σ : P_A} {k a b : Nat} {p i : Int} (h : a ≠ k + 1) : P_sf σ k p i a b = σ a b := if_neg (fun q => h q.1)
theorem P_sf_at {σ : P_A} {k b : Nat} {p i : Int} (h : i ≤ b) : P_sf σ k p i (k + 1) b = σ (k + 1) b := if_neg (fun q => by omega)
theorem P_sf_0 {σ : P_A} {k : Nat} {p : Int} : P_sf σ k p (p * 3) = σ := by
  funext a b
  exact if_neg (fun q => by omega)
theorem P_sf_step {σ : P_A} {k : Nat} {p i v : Int} (h0 : 0 ≤ i) (hp : p * 3 ≤ i) (hv : v = if i + 3 < 42 then σ (k + 1) (i + 3).toNat else 0) : P_u2 (P_sf σ k p i) (k + 1) i.toNat v = P_sf σ k p (i + 1) := by
  subst hv
  funext a b
  unfold P_u2 P_sf
  by_cases e : a = k + 1
  · by_cases e2 : b = i.toNat
    · rw [if_pos ⟨e, e2⟩, if_pos (c := a = k + 1 ∧ p * 3 ≤ (b : Int) ∧ (b : Int) < i + 1) ⟨e, by omega, by omega⟩]
      have e4 : ((b : Nat) : Int) = i := by omega
      have e5 : (i + 3).toNat = b + 3 := by omega
      rw [e4, e5]
    · rw [if_neg (fun q => e2 q.2)]
      by_cases e3 : p * 3 ≤ b ∧ (b : Int) < i
      · rw [if_pos (c := a = k + 1 ∧ p * 3 ≤ (b : Int) ∧ (b : Int) < i) ⟨e, e3⟩, if_pos (c := a = k + 1 ∧ p * 3 ≤ (b : Int) ∧ (b : Int) < i + 1) ⟨e, by omega, by omega⟩]
      · rw [if_neg (fun q => e3 q.2), if_neg (fun q => e3 (by omega))]
  · rw [if_neg (fun q => e q.1), if_neg (fun q => e q.1), if_neg (fun q => e q.1)]
/-- a row less -/
def A_rm (σ : P_A) (k : Nat) (rw p : Int) : P_A := P_u2 (P_sf σ k p 42) k 3 (rw - 1)
theorem A_rm_row {σ : P_A} {k : Nat} {rw cl p : Int} {V V' : Int → Int → Int} (hf : ∀ c j, 0 ≤ c → c < cl → 0 ≤ j → j < rw → σ (k + 1) ((j * 3) + c).toNat = V c j) (hp : 0 ≤ p) (hcl : cl ≤ 3) (hrw : rw ≤ 14) (hV : ∀ c j, V' c j = if j < p then V c j else V c (j + 1)) :
    ∀ c j, 0 ≤ c → c < cl → 0 ≤ j → j < rw - 1 → A_rm σ k rw p (k + 1) ((j * 3) + c).toNat = V' c j := by
  intro c j h1 h2 h3 h4
  rw [hV]
  unfold A_rm
  rw [P_u2_ne (by omega)]
  unfold P_sf
  by_cases hj : j < p
  · rw [if_pos hj, if_neg (fun q => by omega)]
    exact hf c j h1 h2 h3 (by omega)
  · rw [if_neg hj, if_pos ⟨rfl, by omega, by omega⟩, if_pos (by omega), ← hf c (j + 1) h1 h2 (by omega) (by omega)]
    congr 1
    omega

theorem s_rml {w : P_Lw} (hw : P_Cw w) {d : Nat} {Q : P_R → P_A → Prop} {σ : P_A} {k : Nat} (hT : P_isT w k) {rw cl : Int} {V : Int → Int → Int} (hr : σ k 3 = rw) (hc : σ k 0 = cl) (hf : ∀ c j, 0 ≤ c → c < cl → 0 ≤ j → j < rw → σ (k + 1) ((j * 3) + c).toNat = V c j) (hg : ∀ c j, 0 ≤ c → c < cl → 0 ≤ j → j < rw → -2147483648 ≤ V c j ∧ V c j ≤ 2147483647) (ht : 0 ≤ rw ∧ rw ≤ 14 ∧ 0 ≤ cl ∧ cl ≤ 3) {V' : Int → Int → Int} {p : Int} (hV : ∀ c j, V' c j = if j < p then V c j else V c (j + 1)) (hg' : ∀ c j, 0 ≤ c → c < cl → 0 ≤ j → j < rw - 1 → -2147483648 ≤ V' c j ∧ V' c j ≤ 2147483647) (hp : 0 ≤ p ∧ p < rw) : ∀ (n : Nat) (i : Int), (p * 3 ≤ i ∧ i ≤ 42) → (42 = i + (n : Nat)) → Q (.inl none) (P_cv (A_rm σ k rw p) k cl (fun c => P_dv (V' c) (rw - 1).toNat 0 0)) → P_aw w (d + 4) 124 17 [.ref (w.2.2 k), P_un, P_z i] [] (P_sf σ k p i) Q := by
  intro n
  induction n with
  | zero =>
    intro i hv0 hv1 q
    refine P_aw_op (L' := [.ref (w.2.2 k), P_un, P_z i]) (st' := [P_z i]) P_i124_17 rfl (show P_aw _ _ _ 18 [.ref (w.2.2 k), P_un, P_z i] [P_z i] _ _ from ?_)
    refine P_aw_op (L' := [.ref (w.2.2 k), P_un, P_z i]) (st' := [.ref (w.2.2 k), P_z i]) P_i124_18 rfl (show P_aw _ _ _ 19 [.ref (w.2.2 k), P_un, P_z i] [.ref (w.2.2 k), P_z i] _ _ from ?_)
    refine P_aw_getR P_i124_19 hT.1.2 hT.1.1 rfl rfl (show P_aw _ _ _ 22 [.ref (w.2.2 k), P_un, P_z i] [.ref (w.2.2 (k + 1)), P_z i] _ _ from ?_)
    refine P_aw_alen P_i124_22 hT.2.1.2 hT.2.1.1 (show P_aw _ _ _ 23 [.ref (w.2.2 k), P_un, P_z i] [P_z 42, P_z i] _ _ from ?_)
    refine P_aw_ict P_i124_23 ⟨by omega, by omega⟩ ⟨by decide, by decide⟩ (P_ci_get (by omega)) (show P_aw _ _ _ 50 [.ref (w.2.2 k), P_un, P_z i] [] _ _ from ?_)
    refine P_aw_op (L' := [.ref (w.2.2 k), P_un, P_z i]) (st' := [.ref (w.2.2 k)]) P_i124_50 rfl (show P_aw _ _ _ 51 [.ref (w.2.2 k), P_un, P_z i] [.ref (w.2.2 k)] _ _ from ?_)
    refine P_aw_op (L' := [.ref (w.2.2 k), P_un, P_z i]) (st' := [.ref (w.2.2 k), .ref (w.2.2 k)]) P_i124_51 rfl (show P_aw _ _ _ 52 [.ref (w.2.2 k), P_un, P_z i] [.ref (w.2.2 k), .ref (w.2.2 k)] _ _ from ?_)
    refine P_aw_getv P_i124_52 hT.1.2 hT.1.1 rfl rfl ((P_sf_ne (by omega)).trans (hr)) (show P_aw _ _ _ 55 [.ref (w.2.2 k), P_un, P_z i] [P_z rw, .ref (w.2.2 k)] _ _ from ?_)
    refine P_aw_op (L' := [.ref (w.2.2 k), P_un, P_z i]) (st' := [P_z 1, P_z rw, .ref (w.2.2 k)]) P_i124_55 rfl (show P_aw _ _ _ 56 [.ref (w.2.2 k), P_un, P_z i] [P_z 1, P_z rw, .ref (w.2.2 k)] _ _ from ?_)
    refine P_aw_op (L' := [.ref (w.2.2 k), P_un, P_z i]) (st' := [P_z (rw - 1), .ref (w.2.2 k)]) P_i124_56 P_o_isub (show P_aw _ _ _ 57 [.ref (w.2.2 k), P_un, P_z i] [P_z (rw - 1), .ref (w.2.2 k)] _ _ from ?_)
    refine P_aw_put P_i124_57 hT.1.2 hT.1.1 rfl rfl rfl (show P_aw _ _ _ 60 [.ref (w.2.2 k), P_un, P_z i] [] _ _ from ?_)
    refine P_aw_op (L' := [.ref (w.2.2 k), P_un, P_z i]) (st' := [.ref (w.2.2 k)]) P_i124_60 rfl (show P_aw _ _ _ 61 [.ref (w.2.2 k), P_un, P_z i] [.ref (w.2.2 k)] _ _ from ?_)
    refine P_aw_call P_i124_61 rfl rfl (fun _ => rfl) rfl rfl rfl rfl (y2 := 126) (as := [.ref (w.2.2 k)]) (r0 := []) (P_inv_v hT.1.2 hT.1.1 rfl rfl) (Nat.le_of_ble_eq_true rfl) (by decide) rfl (Nat.le_of_ble_eq_true rfl) (s_cv (V := V') (rw := rw - 1) (cl := cl) hw hT P_u2_at ((P_u2_ne (by omega)).trans ((P_sf_ne (by omega)).trans hc)) (by have e : i = 42 := (by omega); subst e; exact A_rm_row hf (by omega) (by omega) (by omega) hV) hg' (by omega) ?_)
    show P_aw _ _ _ 64 [.ref (w.2.2 k), P_un, P_z i] [] _ _
    refine P_aw_end P_i124_64 rfl rfl (fun _ => rfl) rfl ?_
    have e : i = 42 := (by omega); subst e; exact q
  | succ n ih =>
    intro i hv0 hv1 q
    refine P_aw_op (L' := [.ref (w.2.2 k), P_un, P_z i]) (st' := [P_z i]) P_i124_17 rfl (show P_aw _ _ _ 18 [.ref (w.2.2 k), P_un, P_z i] [P_z i] _ _ from ?_)
    refine P_aw_op (L' := [.ref (w.2.2 k), P_un, P_z i]) (st' := [.ref (w.2.2 k), P_z i]) P_i124_18 rfl (show P_aw _ _ _ 19 [.ref (w.2.2 k), P_un, P_z i] [.ref (w.2.2 k), P_z i] _ _ from ?_)
    refine P_aw_getR P_i124_19 hT.1.2 hT.1.1 rfl rfl (show P_aw _ _ _ 22 [.ref (w.2.2 k), P_un, P_z i] [.ref (w.2.2 (k + 1)), P_z i] _ _ from ?_)
    refine P_aw_alen P_i124_22 hT.2.1.2 hT.2.1.1 (show P_aw _ _ _ 23 [.ref (w.2.2 k), P_un, P_z i] [P_z 42, P_z i] _ _ from ?_)
    refine P_aw_icf P_i124_23 ⟨by omega, by omega⟩ ⟨by decide, by decide⟩ (P_ci_gef (by omega)) (show P_aw _ _ _ 26 [.ref (w.2.2 k), P_un, P_z i] [] _ _ from ?_)
    refine P_aw_op (L' := [.ref (w.2.2 k), P_un, P_z i]) (st' := [.ref (w.2.2 k)]) P_i124_26 rfl (show P_aw _ _ _ 27 [.ref (w.2.2 k), P_un, P_z i] [.ref (w.2.2 k)] _ _ from ?_)
    refine P_aw_getR P_i124_27 hT.1.2 hT.1.1 rfl rfl (show P_aw _ _ _ 30 [.ref (w.2.2 k), P_un, P_z i] [.ref (w.2.2 (k + 1))] _ _ from ?_)
    refine P_aw_op (L' := [.ref (w.2.2 k), P_un, P_z i]) (st' := [P_z i, .ref (w.2.2 (k + 1))]) P_i124_30 rfl (show P_aw _ _ _ 31 [.ref (w.2.2 k), P_un, P_z i] [P_z i, .ref (w.2.2 (k + 1))] _ _ from ?_)
    refine P_aw_op (L' := [.ref (w.2.2 k), P_un, P_z i]) (st' := [.ref (w.2.2 k), P_z i, .ref (w.2.2 (k + 1))]) P_i124_31 rfl (show P_aw _ _ _ 32 [.ref (w.2.2 k), P_un, P_z i] [.ref (w.2.2 k), P_z i, .ref (w.2.2 (k + 1))] _ _ from ?_)
    refine P_aw_getR P_i124_32 hT.1.2 hT.1.1 rfl rfl (show P_aw _ _ _ 35 [.ref (w.2.2 k), P_un, P_z i] [.ref (w.2.2 (k + 1)), P_z i, .ref (w.2.2 (k + 1))] _ _ from ?_)
    refine P_aw_op (L' := [.ref (w.2.2 k), P_un, P_z i]) (st' := [P_z i, .ref (w.2.2 (k + 1)), P_z i, .ref (w.2.2 (k + 1))]) P_i124_35 rfl (show P_aw _ _ _ 36 [.ref (w.2.2 k), P_un, P_z i] [P_z i, .ref (w.2.2 (k + 1)), P_z i, .ref (w.2.2 (k + 1))] _ _ from ?_)
    refine P_aw_op (L' := [.ref (w.2.2 k), P_un, P_z i]) (st' := [P_z 3, P_z i, .ref (w.2.2 (k + 1)), P_z i, .ref (w.2.2 (k + 1))]) P_i124_36 rfl (show P_aw _ _ _ 37 [.ref (w.2.2 k), P_un, P_z i] [P_z 3, P_z i, .ref (w.2.2 (k + 1)), P_z i, .ref (w.2.2 (k + 1))] _ _ from ?_)
    refine P_aw_op (L' := [.ref (w.2.2 k), P_un, P_z i]) (st' := [P_z (i + 3), .ref (w.2.2 (k + 1)), P_z i, .ref (w.2.2 (k + 1))]) P_i124_37 P_o_iadd (show P_aw _ _ _ 38 [.ref (w.2.2 k), P_un, P_z i] [P_z (i + 3), .ref (w.2.2 (k + 1)), P_z i, .ref (w.2.2 (k + 1))] _ _ from ?_)
    refine P_aw_call P_i124_38 rfl rfl (fun _ => rfl) rfl rfl rfl rfl (y2 := 178) (as := [.ref (w.2.2 (k + 1)), P_z (i + 3)]) (r0 := [P_z i, .ref (w.2.2 (k + 1))]) (fun _ _ => rfl) (Nat.le_of_ble_eq_true rfl) (by decide) rfl (Nat.le_of_ble_eq_true rfl) (show P_aw _ _ _ 0 [.ref (w.2.2 (k + 1)), P_z (i + 3)] [] _ _ from ?_)
    refine P_aw_op (L' := [.ref (w.2.2 (k + 1)), P_z (i + 3)]) (st' := [P_z (i + 3)]) P_i178_0 rfl (show P_aw _ _ _ 1 [.ref (w.2.2 (k + 1)), P_z (i + 3)] [P_z (i + 3)] _ _ from ?_)
    refine P_aw_izf P_i178_1 ⟨by omega, by omega⟩ (P_ci_ltf (by omega)) (show P_aw _ _ _ 4 [.ref (w.2.2 (k + 1)), P_z (i + 3)] [] _ _ from ?_)
    refine P_aw_op (L' := [.ref (w.2.2 (k + 1)), P_z (i + 3)]) (st' := [P_z (i + 3)]) P_i178_4 rfl (show P_aw _ _ _ 5 [.ref (w.2.2 (k + 1)), P_z (i + 3)] [P_z (i + 3)] _ _ from ?_)
    refine P_aw_op (L' := [.ref (w.2.2 (k + 1)), P_z (i + 3)]) (st' := [.ref (w.2.2 (k + 1)), P_z (i + 3)]) P_i178_5 rfl (show P_aw _ _ _ 6 [.ref (w.2.2 (k + 1)), P_z (i + 3)] [.ref (w.2.2 (k + 1)), P_z (i + 3)] _ _ from ?_)
    refine P_aw_alen P_i178_6 hT.2.1.2 hT.2.1.1 (show P_aw _ _ _ 7 [.ref (w.2.2 (k + 1)), P_z (i + 3)] [P_z 42, P_z (i + 3)] _ _ from ?_)
    rcases Int.lt_or_le (i + 3) 42 with hc1 | hc1
    · refine P_aw_icf P_i178_7 ⟨by omega, by omega⟩ ⟨by decide, by decide⟩ (P_ci_gef (by omega)) (show P_aw _ _ _ 10 [.ref (w.2.2 (k + 1)), P_z (i + 3)] [] _ _ from ?_)
      refine P_aw_op (L' := [.ref (w.2.2 (k + 1)), P_z (i + 3)]) (st' := [.ref (w.2.2 (k + 1))]) P_i178_10 rfl (show P_aw _ _ _ 11 [.ref (w.2.2 (k + 1)), P_z (i + 3)] [.ref (w.2.2 (k + 1))] _ _ from ?_)
      refine P_aw_op (L' := [.ref (w.2.2 (k + 1)), P_z (i + 3)]) (st' := [P_z (i + 3), .ref (w.2.2 (k + 1))]) P_i178_11 rfl (show P_aw _ _ _ 12 [.ref (w.2.2 (k + 1)), P_z (i + 3)] [P_z (i + 3), .ref (w.2.2 (k + 1))] _ _ from ?_)
      refine P_aw_aldv P_i178_12 hT.2.1.2 hT.2.1.1 (by omega) (by omega) (by decide) (P_sf_at (by omega)) (show P_aw _ _ _ 13 [.ref (w.2.2 (k + 1)), P_z (i + 3)] [P_z (σ (k + 1) (i + 3).toNat)] _ _ from ?_)
      refine P_aw_goto P_i178_13 (show P_aw _ _ _ 17 [.ref (w.2.2 (k + 1)), P_z (i + 3)] [P_z (σ (k + 1) (i + 3).toNat)] _ _ from ?_)
      refine P_aw_end P_i178_17 rfl rfl (fun _ => rfl) rfl ?_
      show P_aw _ _ _ 41 [.ref (w.2.2 k), P_un, P_z i] [P_z (σ (k + 1) (i + 3).toNat), P_z i, .ref (w.2.2 (k + 1))] _ _
      refine P_aw_call P_i124_41 rfl rfl (fun _ => rfl) rfl rfl rfl rfl (y2 := 179) (as := [.ref (w.2.2 (k + 1)), P_z i, P_z (σ (k + 1) (i + 3).toNat)]) (r0 := []) (fun _ _ => rfl) (Nat.le_of_ble_eq_true rfl) (by decide) rfl (Nat.le_of_ble_eq_true rfl) (show P_aw _ _ _ 0 [.ref (w.2.2 (k + 1)), P_z i, P_z (σ (k + 1) (i + 3).toNat)] [] _ _ from ?_)
      refine P_aw_op (L' := [.ref (w.2.2 (k + 1)), P_z i, P_z (σ (k + 1) (i + 3).toNat)]) (st' := [P_z i]) P_i179_0 rfl (show P_aw _ _ _ 1 [.ref (w.2.2 (k + 1)), P_z i, P_z (σ (k + 1) (i + 3).toNat)] [P_z i] _ _ from ?_)
      refine P_aw_izf P_i179_1 ⟨by omega, by omega⟩ (P_ci_ltf (by omega)) (show P_aw _ _ _ 4 [.ref (w.2.2 (k + 1)), P_z i, P_z (σ (k + 1) (i + 3).toNat)] [] _ _ from ?_)
      refine P_aw_op (L' := [.ref (w.2.2 (k + 1)), P_z i, P_z (σ (k + 1) (i + 3).toNat)]) (st' := [P_z i]) P_i179_4 rfl (show P_aw _ _ _ 5 [.ref (w.2.2 (k + 1)), P_z i, P_z (σ (k + 1) (i + 3).toNat)] [P_z i] _ _ from ?_)
      refine P_aw_op (L' := [.ref (w.2.2 (k + 1)), P_z i, P_z (σ (k + 1) (i + 3).toNat)]) (st' := [.ref (w.2.2 (k + 1)), P_z i]) P_i179_5 rfl (show P_aw _ _ _ 6 [.ref (w.2.2 (k + 1)), P_z i, P_z (σ (k + 1) (i + 3).toNat)] [.ref (w.2.2 (k + 1)), P_z i] _ _ from ?_)
      refine P_aw_alen P_i179_6 hT.2.1.2 hT.2.1.1 (show P_aw _ _ _ 7 [.ref (w.2.2 (k + 1)), P_z i, P_z (σ (k + 1) (i + 3).toNat)] [P_z 42, P_z i] _ _ from ?_)
      refine P_aw_icf P_i179_7 ⟨by omega, by omega⟩ ⟨by decide, by decide⟩ (P_ci_gef (by omega)) (show P_aw _ _ _ 10 [.ref (w.2.2 (k + 1)), P_z i, P_z (σ (k + 1) (i + 3).toNat)] [] _ _ from ?_)
      refine P_aw_op (L' := [.ref (w.2.2 (k + 1)), P_z i, P_z (σ (k + 1) (i + 3).toNat)]) (st' := [.ref (w.2.2 (k + 1))]) P_i179_10 rfl (show P_aw _ _ _ 11 [.ref (w.2.2 (k + 1)), P_z i, P_z (σ (k + 1) (i + 3).toNat)] [.ref (w.2.2 (k + 1))] _ _ from ?_)
      refine P_aw_op (L' := [.ref (w.2.2 (k + 1)), P_z i, P_z (σ (k + 1) (i + 3).toNat)]) (st' := [P_z i, .ref (w.2.2 (k + 1))]) P_i179_11 rfl (show P_aw _ _ _ 12 [.ref (w.2.2 (k + 1)), P_z i, P_z (σ (k + 1) (i + 3).toNat)] [P_z i, .ref (w.2.2 (k + 1))] _ _ from ?_)
      refine P_aw_op (L' := [.ref (w.2.2 (k + 1)), P_z i, P_z (σ (k + 1) (i + 3).toNat)]) (st' := [P_z (σ (k + 1) (i + 3).toNat), P_z i, .ref (w.2.2 (k + 1))]) P_i179_12 rfl (show P_aw _ _ _ 13 [.ref (w.2.2 (k + 1)), P_z i, P_z (σ (k + 1) (i + 3).toNat)] [P_z (σ (k + 1) (i + 3).toNat), P_z i, .ref (w.2.2 (k + 1))] _ _ from ?_)
      refine P_aw_ast P_i179_13 hT.2.1.2 hT.2.1.1 (by omega) (by omega) (by decide) (show P_aw _ _ _ 14 [.ref (w.2.2 (k + 1)), P_z i, P_z (σ (k + 1) (i + 3).toNat)] [] _ _ from ?_)
      refine P_aw_end P_i179_14 rfl rfl (fun _ => rfl) rfl ?_
      show P_aw _ _ _ 44 [.ref (w.2.2 k), P_un, P_z i] [] _ _
      refine P_aw_op (L' := [.ref (w.2.2 k), P_un, P_z (i + 1)]) (st' := []) P_i124_44 (P_o_iinc rfl) (show P_aw _ _ _ 47 [.ref (w.2.2 k), P_un, P_z (i + 1)] [] _ _ from ?_)
      refine P_aw_goto P_i124_47 (show P_aw _ _ _ 17 [.ref (w.2.2 k), P_un, P_z (i + 1)] [] _ _ from ?_)
      refine P_aws (P_sf_step (by omega) (by omega) (by first | rw [if_pos (by omega)] | rw [if_neg (by omega)])) ?_; exact ih (i + 1) (by omega) (by omega) q
    · refine P_aw_ict P_i178_7 ⟨by omega, by omega⟩ ⟨by decide, by decide⟩ (P_ci_get (by omega)) (show P_aw _ _ _ 16 [.ref (w.2.2 (k + 1)), P_z (i + 3)] [] _ _ from ?_)
      refine P_aw_op (L' := [.ref (w.2.2 (k + 1)), P_z (i + 3)]) (st' := [P_z 0]) P_i178_16 rfl (show P_aw _ _ _ 17 [.ref (w.2.2 (k + 1)), P_z (i + 3)] [P_z 0] _ _ from ?_)
      refine P_aw_end P_i178_17 rfl rfl (fun _ => rfl) rfl ?_
      show P_aw _ _ _ 41 [.ref (w.2.2 k), P_un, P_z i] [P_z 0, P_z i, .ref (w.2.2 (k + 1))] _ _
      refine P_aw_call P_i124_41 rfl rfl (fun _ => rfl) rfl rfl rfl rfl (y2 := 179) (as := [.ref (w.2.2 (k + 1)), P_z i, P_z 0]) (r0 := []) (fun _ _ => rfl) (Nat.le_of_ble_eq_true rfl) (by decide) rfl (Nat.le_of_ble_eq_true rfl) (show P_aw _ _ _ 0 [.ref (w.2.2 (k + 1)), P_z i, P_z 0] [] _ _ from ?_)
      refine P_aw_op (L' := [.ref (w.2.2 (k + 1)), P_z i, P_z 0]) (st' := [P_z i]) P_i179_0 rfl (show P_aw _ _ _ 1 [.ref (w.2.2 (k + 1)), P_z i, P_z 0] [P_z i] _ _ from ?_)
      refine P_aw_izf P_i179_1 ⟨by omega, by omega⟩ (P_ci_ltf (by omega)) (show P_aw _ _ _ 4 [.ref (w.2.2 (k + 1)), P_z i, P_z 0] [] _ _ from ?_)
      refine P_aw_op (L' := [.ref (w.2.2 (k + 1)), P_z i, P_z 0]) (st' := [P_z i]) P_i179_4 rfl (show P_aw _ _ _ 5 [.ref (w.2.2 (k + 1)), P_z i, P_z 0] [P_z i] _ _ from ?_)
      refine P_aw_op (L' := [.ref (w.2.2 (k + 1)), P_z i, P_z 0]) (st' := [.ref (w.2.2 (k + 1)), P_z i]) P_i179_5 rfl (show P_aw _ _ _ 6 [.ref (w.2.2 (k + 1)), P_z i, P_z 0] [.ref (w.2.2 (k + 1)), P_z i] _ _ from ?_)
      refine P_aw_alen P_i179_6 hT.2.1.2 hT.2.1.1 (show P_aw _ _ _ 7 [.ref (w.2.2 (k + 1)), P_z i, P_z 0] [P_z 42, P_z i] _ _ from ?_)
      refine P_aw_icf P_i179_7 ⟨by omega, by omega⟩ ⟨by decide, by decide⟩ (P_ci_gef (by omega)) (show P_aw _ _ _ 10 [.ref (w.2.2 (k + 1)), P_z i, P_z 0] [] _ _ from ?_)
      refine P_aw_op (L' := [.ref (w.2.2 (k + 1)), P_z i, P_z 0]) (st' := [.ref (w.2.2 (k + 1))]) P_i179_10 rfl (show P_aw _ _ _ 11 [.ref (w.2.2 (k + 1)), P_z i, P_z 0] [.ref (w.2.2 (k + 1))] _ _ from ?_)
      refine P_aw_op (L' := [.ref (w.2.2 (k + 1)), P_z i, P_z 0]) (st' := [P_z i, .ref (w.2.2 (k + 1))]) P_i179_11 rfl (show P_aw _ _ _ 12 [.ref (w.2.2 (k + 1)), P_z i, P_z 0] [P_z i, .ref (w.2.2 (k + 1))] _ _ from ?_)
      refine P_aw_op (L' := [.ref (w.2.2 (k + 1)), P_z i, P_z 0]) (st' := [P_z 0, P_z i, .ref (w.2.2 (k + 1))]) P_i179_12 rfl (show P_aw _ _ _ 13 [.ref (w.2.2 (k + 1)), P_z i, P_z 0] [P_z 0, P_z i, .ref (w.2.2 (k + 1))] _ _ from ?_)
      refine P_aw_ast P_i179_13 hT.2.1.2 hT.2.1.1 (by omega) (by omega) (by decide) (show P_aw _ _ _ 14 [.ref (w.2.2 (k + 1)), P_z i, P_z 0] [] _ _ from ?_)
      refine P_aw_end P_i179_14 rfl rfl (fun _ => rfl) rfl ?_
      show P_aw _ _ _ 44 [.ref (w.2.2 k), P_un, P_z i] [] _ _
      refine P_aw_op (L' := [.ref (w.2.2 k), P_un, P_z (i + 1)]) (st' := []) P_i124_44 (P_o_iinc rfl) (show P_aw _ _ _ 47 [.ref (w.2.2 k), P_un, P_z (i + 1)] [] _ _ from ?_)
      refine P_aw_goto P_i124_47 (show P_aw _ _ _ 17 [.ref (w.2.2 k), P_un, P_z (i + 1)] [] _ _ from ?_)
      refine P_aws (P_sf_step (by omega) (by omega) (by first | rw [if_pos (by omega)] | rw [if_neg (by omega)])) ?_; exact ih (i + 1) (by omega) (by omega) q

theorem s_rm {w : P_Lw} (hw : P_Cw w) {d : Nat} {Q : P_R → P_A → Prop} {σ : P_A} {k : Nat} (hT : P_isT w k) {rw cl : Int} {V : Int → Int → Int} (hr : σ k 3 = rw) (hc : σ k 0 = cl) (hf : ∀ c j, 0 ≤ c → c < cl → 0 ≤ j → j < rw → σ (k + 1) ((j * 3) + c).toNat = V c j) (hg : ∀ c j, 0 ≤ c → c < cl → 0 ≤ j → j < rw → -2147483648 ≤ V c j ∧ V c j ≤ 2147483647) (ht : 0 ≤ rw ∧ rw ≤ 14 ∧ 0 ≤ cl ∧ cl ≤ 3) {V' : Int → Int → Int} {p : Int} (hV : ∀ c j, V' c j = if j < p then V c j else V c (j + 1)) (hg' : ∀ c j, 0 ≤ c → c < cl → 0 ≤ j → j < rw - 1 → -2147483648 ≤ V' c j ∧ V' c j ≤ 2147483647) (hp : 0 ≤ p ∧ p < rw) (q : Q (.inl none) (P_cv (A_rm σ k rw p) k cl (fun c => P_dv (V' c) (rw - 1).toNat 0 0))) : P_aw w (d + 4) 124 0 [.ref (w.2.2 k), P_z p, P_un] [] σ Q := by
  refine P_aw_op (L' := [.ref (w.2.2 k), P_z p, P_un]) (st' := [P_z p]) P_i124_0 rfl (show P_aw _ _ _ 1 [.ref (w.2.2 k), P_z p, P_un] [P_z p] _ _ from ?_)
  refine P_aw_izf P_i124_1 ⟨by omega, by omega⟩ (P_ci_ltf (by omega)) (show P_aw _ _ _ 4 [.ref (w.2.2 k), P_z p, P_un] [] _ _ from ?_)
  refine P_aw_op (L' := [.ref (w.2.2 k), P_z p, P_un]) (st' := [P_z p]) P_i124_4 rfl (show P_aw _ _ _ 5 [.ref (w.2.2 k), P_z p, P_un] [P_z p] _ _ from ?_)
  refine P_aw_op (L' := [.ref (w.2.2 k), P_z p, P_un]) (st' := [.ref (w.2.2 k), P_z p]) P_i124_5 rfl (show P_aw _ _ _ 6 [.ref (w.2.2 k), P_z p, P_un] [.ref (w.2.2 k), P_z p] _ _ from ?_)
  refine P_aw_getv P_i124_6 hT.1.2 hT.1.1 rfl rfl (hr) (show P_aw _ _ _ 9 [.ref (w.2.2 k), P_z p, P_un] [P_z rw, P_z p] _ _ from ?_)
  refine P_aw_ict P_i124_9 ⟨by omega, by omega⟩ ⟨by omega, by omega⟩ (P_ci_ltt (by omega)) (show P_aw _ _ _ 13 [.ref (w.2.2 k), P_z p, P_un] [] _ _ from ?_)
  refine P_aw_op (L' := [.ref (w.2.2 k), P_z p, P_un]) (st' := [P_z p]) P_i124_13 rfl (show P_aw _ _ _ 14 [.ref (w.2.2 k), P_z p, P_un] [P_z p] _ _ from ?_)
  refine P_aw_op (L' := [.ref (w.2.2 k), P_z p, P_un]) (st' := [P_z 3, P_z p]) P_i124_14 rfl (show P_aw _ _ _ 15 [.ref (w.2.2 k), P_z p, P_un] [P_z 3, P_z p] _ _ from ?_)
  refine P_aw_op (L' := [.ref (w.2.2 k), P_z p, P_un]) (st' := [P_z (p * 3)]) P_i124_15 P_o_imul (show P_aw _ _ _ 16 [.ref (w.2.2 k), P_z p, P_un] [P_z (p * 3)] _ _ from ?_)
  refine P_aw_op (L' := [.ref (w.2.2 k), P_z p, P_z (p * 3)]) (st' := []) P_i124_16 rfl (show P_aw _ _ _ 17 [.ref (w.2.2 k), P_un, P_z (p * 3)] [] _ _ from ?_)
  refine P_aws (σ' := P_sf σ k p (p * 3)) P_sf_0.symm ?_; exact s_rml hw hT hr hc hf hg ht hV hg' hp (42 - p * 3).toNat (p * 3) (by omega) (by omega) q
