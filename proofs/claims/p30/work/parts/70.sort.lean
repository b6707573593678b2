/-! the class, written by wip/c1.py: 70.sort -/
/-- results with their keys: key, number -/
abbrev A_kf : Type := Int × Int
def A_at (l : List A_kf) (j : Nat) : A_kf := l.getD j (0, 0)
theorem A_at_mid {A B : List A_kf} {y : A_kf} {i : Int} (hi : i = ((A.length : Nat) : Int)) : A_at (A ++ y :: B) i.toNat = y := by
  subst hi
  unfold A_at
  rw [Int.toNat_natCast, List.getD_eq_getElem?_getD, List.getElem?_append_right (Nat.le_refl _), Nat.sub_self]
  rfl
/-- the keys and the numbers in the answer's rows -/
def A_KF (σ : P_A) (l : List A_kf) : Prop := σ 31 14 = ((l.length : Nat) : Int) ∧ l.length ≤ 2744 ∧ (∀ j, j < l.length → σ 40 j = (A_at l j).1 ∧ σ 37 j = (A_at l j).2) ∧ ∀ y ∈ l, -1000000000 < y.1 ∧ y.1 < 1000000000
theorem A_KF_cg {σ σ' : P_A} {l : List A_kf} (h : σ' 31 14 = σ 31 14) (h1 : ∀ b, σ' 40 b = σ 40 b) (h2 : ∀ b, σ' 37 b = σ 37 b) (hK : A_KF σ l) : A_KF σ' l := ⟨h.trans hK.1, hK.2.1, fun j hj => ⟨(h1 j).trans (hK.2.2.1 j hj).1, (h2 j).trans (hK.2.2.1 j hj).2⟩, hK.2.2.2⟩
/-- the smallest key behind one -/
def A_sk (bf : Int) : List A_kf → Int → Int
  | [], s => s
  | y :: r, s => A_sk bf r (if bf < y.1 ∧ y.1 < s then y.1 else s)
def A_len2 := 0
theorem A_lenk {A B : List A_kf} {y : A_kf} : ((A ++ y :: B).length : Int) = (A.length : Int) + 1 + (B.length : Int) := by
  rw [List.length_append, List.length_cons]
  omega
theorem A_appk {A B : List A_kf} {y : A_kf} : A ++ y :: B = (A ++ [y]) ++ B := by simp

theorem s_skl {w : P_Lw} (hw : P_Cw w) {d : Nat} {Q : P_R → P_A → Prop} {σ : P_A} {l : List A_kf} {bf : Int} (hbf : -1000000000 ≤ bf ∧ bf ≤ 1000000000) (hK : A_KF σ l) : ∀ (n : Nat) (A B : List A_kf) (i sm : Int), l = A ++ B → i = ((A.length : Nat) : Int) → B.length = n → (-1000000000 ≤ sm ∧ sm ≤ 1000000000) → Q (.inl (some (P_z (A_sk bf B sm)))) σ → P_aw w (d + 2) 13 5 [.ref (w.2.2 31), P_z bf, P_z sm, P_z i, P_un] [] σ Q := by
  intro n
  induction n with
  | zero =>
    intro A B i sm hcs hi hB hsm q
    obtain rfl : B = [] := List.length_eq_zero_iff.mp hB
    have hl : i = (l.length : Int) := by rw [hcs, hi]; simp
    have hz := hK.2.1
    refine P_aw_op (L' := [.ref (w.2.2 31), P_z bf, P_z sm, P_z i, P_un]) (st' := [P_z i]) P_i13_5 rfl (show P_aw _ _ _ 6 [.ref (w.2.2 31), P_z bf, P_z sm, P_z i, P_un] [P_z i] _ _ from ?_)
    refine P_aw_op (L' := [.ref (w.2.2 31), P_z bf, P_z sm, P_z i, P_un]) (st' := [.ref (w.2.2 31), P_z i]) P_i13_6 rfl (show P_aw _ _ _ 7 [.ref (w.2.2 31), P_z bf, P_z sm, P_z i, P_un] [.ref (w.2.2 31), P_z i] _ _ from ?_)
    refine P_aw_getv P_i13_7 (hw.2.1 31 (by decide)) (hw.s rfl) rfl rfl (hK.1) (show P_aw _ _ _ 10 [.ref (w.2.2 31), P_z bf, P_z sm, P_z i, P_un] [P_z ((l.length : Nat) : Int), P_z i] _ _ from ?_)
    refine P_aw_ict P_i13_10 ⟨by omega, by omega⟩ ⟨by omega, by omega⟩ (P_ci_get (by omega)) (show P_aw _ _ _ 44 [.ref (w.2.2 31), P_z bf, P_z sm, P_z i, P_un] [] _ _ from ?_)
    refine P_aw_op (L' := [.ref (w.2.2 31), P_z bf, P_z sm, P_z i, P_un]) (st' := [P_z sm]) P_i13_44 rfl (show P_aw _ _ _ 45 [.ref (w.2.2 31), P_z bf, P_z sm, P_z i, P_un] [P_z sm] _ _ from ?_)
    refine P_aw_end P_i13_45 rfl rfl (fun _ => rfl) rfl ?_
    exact q
  | succ n ih =>
    intro A B i sm hcs hi hB hsm q
    obtain ⟨y, B, rfl⟩ : ∃ x B', B = x :: B' := by
      cases B with
      | nil => exact absurd hB (by simp)
      | cons x B => exact ⟨x, B, rfl⟩
    have hlB : B.length = n := Nat.succ.inj hB
    have hl : (l.length : Int) = i + 1 + (n : Int) := by rw [hcs, hi, A_lenk, hlB]
    have hy : A_at l i.toNat = y := by rw [hcs]; exact A_at_mid hi
    have hyr := hK.2.2.2 y (by rw [hcs]; simp)
    have hz := hK.2.1
    refine P_aw_op (L' := [.ref (w.2.2 31), P_z bf, P_z sm, P_z i, P_un]) (st' := [P_z i]) P_i13_5 rfl (show P_aw _ _ _ 6 [.ref (w.2.2 31), P_z bf, P_z sm, P_z i, P_un] [P_z i] _ _ from ?_)
    refine P_aw_op (L' := [.ref (w.2.2 31), P_z bf, P_z sm, P_z i, P_un]) (st' := [.ref (w.2.2 31), P_z i]) P_i13_6 rfl (show P_aw _ _ _ 7 [.ref (w.2.2 31), P_z bf, P_z sm, P_z i, P_un] [.ref (w.2.2 31), P_z i] _ _ from ?_)
    refine P_aw_getv P_i13_7 (hw.2.1 31 (by decide)) (hw.s rfl) rfl rfl (hK.1) (show P_aw _ _ _ 10 [.ref (w.2.2 31), P_z bf, P_z sm, P_z i, P_un] [P_z ((l.length : Nat) : Int), P_z i] _ _ from ?_)
    refine P_aw_icf P_i13_10 ⟨by omega, by omega⟩ ⟨by omega, by omega⟩ (P_ci_gef (by omega)) (show P_aw _ _ _ 13 [.ref (w.2.2 31), P_z bf, P_z sm, P_z i, P_un] [] _ _ from ?_)
    refine P_aw_op (L' := [.ref (w.2.2 31), P_z bf, P_z sm, P_z i, P_un]) (st' := [.ref (w.2.2 31)]) P_i13_13 rfl (show P_aw _ _ _ 14 [.ref (w.2.2 31), P_z bf, P_z sm, P_z i, P_un] [.ref (w.2.2 31)] _ _ from ?_)
    refine P_aw_getR P_i13_14 (hw.2.1 31 (by decide)) (hw.s rfl) rfl rfl (show P_aw _ _ _ 17 [.ref (w.2.2 31), P_z bf, P_z sm, P_z i, P_un] [.ref (w.2.2 40)] _ _ from ?_)
    refine P_aw_op (L' := [.ref (w.2.2 31), P_z bf, P_z sm, P_z i, P_un]) (st' := [P_z i, .ref (w.2.2 40)]) P_i13_17 rfl (show P_aw _ _ _ 18 [.ref (w.2.2 31), P_z bf, P_z sm, P_z i, P_un] [P_z i, .ref (w.2.2 40)] _ _ from ?_)
    refine P_aw_call P_i13_18 rfl rfl (fun _ => rfl) rfl rfl rfl rfl (y2 := 178) (as := [.ref (w.2.2 40), P_z i]) (r0 := []) (fun _ _ => rfl) (Nat.le_of_ble_eq_true rfl) (by decide) rfl (Nat.le_of_ble_eq_true rfl) (show P_aw _ _ _ 0 [.ref (w.2.2 40), P_z i] [] _ _ from ?_)
    refine P_aw_op (L' := [.ref (w.2.2 40), P_z i]) (st' := [P_z i]) P_i178_0 rfl (show P_aw _ _ _ 1 [.ref (w.2.2 40), P_z i] [P_z i] _ _ from ?_)
    refine P_aw_izf P_i178_1 ⟨by omega, by omega⟩ (P_ci_ltf (by omega)) (show P_aw _ _ _ 4 [.ref (w.2.2 40), P_z i] [] _ _ from ?_)
    refine P_aw_op (L' := [.ref (w.2.2 40), P_z i]) (st' := [P_z i]) P_i178_4 rfl (show P_aw _ _ _ 5 [.ref (w.2.2 40), P_z i] [P_z i] _ _ from ?_)
    refine P_aw_op (L' := [.ref (w.2.2 40), P_z i]) (st' := [.ref (w.2.2 40), P_z i]) P_i178_5 rfl (show P_aw _ _ _ 6 [.ref (w.2.2 40), P_z i] [.ref (w.2.2 40), P_z i] _ _ from ?_)
    refine P_aw_alen P_i178_6 (hw.2.1 40 (by decide)) (hw.s rfl) (show P_aw _ _ _ 7 [.ref (w.2.2 40), P_z i] [P_z 2744, P_z i] _ _ from ?_)
    refine P_aw_icf P_i178_7 ⟨by omega, by omega⟩ ⟨by decide, by decide⟩ (P_ci_gef (by omega)) (show P_aw _ _ _ 10 [.ref (w.2.2 40), P_z i] [] _ _ from ?_)
    refine P_aw_op (L' := [.ref (w.2.2 40), P_z i]) (st' := [.ref (w.2.2 40)]) P_i178_10 rfl (show P_aw _ _ _ 11 [.ref (w.2.2 40), P_z i] [.ref (w.2.2 40)] _ _ from ?_)
    refine P_aw_op (L' := [.ref (w.2.2 40), P_z i]) (st' := [P_z i, .ref (w.2.2 40)]) P_i178_11 rfl (show P_aw _ _ _ 12 [.ref (w.2.2 40), P_z i] [P_z i, .ref (w.2.2 40)] _ _ from ?_)
    have hg1 := hyr
    refine P_aw_aldv P_i178_12 (hw.2.1 40 (by decide)) (hw.s rfl) (by omega) (by omega) (by decide) ((hK.2.2.1 i.toNat (by omega)).1.trans (by rw [hy])) (show P_aw _ _ _ 13 [.ref (w.2.2 40), P_z i] [P_z y.1] _ _ from ?_)
    refine P_aw_goto P_i178_13 (show P_aw _ _ _ 17 [.ref (w.2.2 40), P_z i] [P_z y.1] _ _ from ?_)
    refine P_aw_end P_i178_17 rfl rfl (fun _ => rfl) rfl ?_
    show P_aw _ _ _ 21 [.ref (w.2.2 31), P_z bf, P_z sm, P_z i, P_un] [P_z y.1] _ _
    refine P_aw_op (L' := [.ref (w.2.2 31), P_z bf, P_z sm, P_z i, P_z y.1]) (st' := []) P_i13_21 rfl (show P_aw _ _ _ 23 [.ref (w.2.2 31), P_z bf, P_z sm, P_z i, P_z y.1] [] _ _ from ?_)
    refine P_aw_op (L' := [.ref (w.2.2 31), P_z bf, P_z sm, P_z i, P_z y.1]) (st' := [P_z y.1]) P_i13_23 rfl (show P_aw _ _ _ 25 [.ref (w.2.2 31), P_z bf, P_z sm, P_z i, P_z y.1] [P_z y.1] _ _ from ?_)
    refine P_aw_op (L' := [.ref (w.2.2 31), P_z bf, P_z sm, P_z i, P_z y.1]) (st' := [P_z bf, P_z y.1]) P_i13_25 rfl (show P_aw _ _ _ 26 [.ref (w.2.2 31), P_z bf, P_z sm, P_z i, P_z y.1] [P_z bf, P_z y.1] _ _ from ?_)
    rcases Int.lt_or_le bf y.1 with hc2 | hc2
    · refine P_aw_icf P_i13_26 ⟨by omega, by omega⟩ ⟨by omega, by omega⟩ (P_ci_lef (by omega)) (show P_aw _ _ _ 29 [.ref (w.2.2 31), P_z bf, P_z sm, P_z i, P_z y.1] [] _ _ from ?_)
      refine P_aw_op (L' := [.ref (w.2.2 31), P_z bf, P_z sm, P_z i, P_z y.1]) (st' := [P_z y.1]) P_i13_29 rfl (show P_aw _ _ _ 31 [.ref (w.2.2 31), P_z bf, P_z sm, P_z i, P_z y.1] [P_z y.1] _ _ from ?_)
      refine P_aw_op (L' := [.ref (w.2.2 31), P_z bf, P_z sm, P_z i, P_z y.1]) (st' := [P_z sm, P_z y.1]) P_i13_31 rfl (show P_aw _ _ _ 32 [.ref (w.2.2 31), P_z bf, P_z sm, P_z i, P_z y.1] [P_z sm, P_z y.1] _ _ from ?_)
      rcases Int.lt_or_le y.1 sm with hc3 | hc3
      · refine P_aw_icf P_i13_32 ⟨by omega, by omega⟩ ⟨by omega, by omega⟩ (P_ci_gef (by omega)) (show P_aw _ _ _ 35 [.ref (w.2.2 31), P_z bf, P_z sm, P_z i, P_z y.1] [] _ _ from ?_)
        refine P_aw_op (L' := [.ref (w.2.2 31), P_z bf, P_z sm, P_z i, P_z y.1]) (st' := [P_z y.1]) P_i13_35 rfl (show P_aw _ _ _ 37 [.ref (w.2.2 31), P_z bf, P_z sm, P_z i, P_z y.1] [P_z y.1] _ _ from ?_)
        refine P_aw_op (L' := [.ref (w.2.2 31), P_z bf, P_z y.1, P_z i, P_z y.1]) (st' := []) P_i13_37 rfl (show P_aw _ _ _ 38 [.ref (w.2.2 31), P_z bf, P_z y.1, P_z i, P_z y.1] [] _ _ from ?_)
        refine P_aw_op (L' := [.ref (w.2.2 31), P_z bf, P_z y.1, P_z (i + 1), P_z y.1]) (st' := []) P_i13_38 (P_o_iinc rfl) (show P_aw _ _ _ 41 [.ref (w.2.2 31), P_z bf, P_z y.1, P_z (i + 1), P_z y.1] [] _ _ from ?_)
        refine P_aw_goto P_i13_41 (show P_aw _ _ _ 5 [.ref (w.2.2 31), P_z bf, P_z y.1, P_z (i + 1), P_un] [] _ _ from ?_)
        exact ih (A ++ [y]) B (i + 1) y.1 (by rw [hcs]; exact A_appk) (by rw [hi]; simp) hlB (by omega) (P_qz (by simp only [A_sk]; first | rw [if_pos (by omega)] | rw [if_neg (by omega)]) rfl q)
      · refine P_aw_ict P_i13_32 ⟨by omega, by omega⟩ ⟨by omega, by omega⟩ (P_ci_get (by omega)) (show P_aw _ _ _ 38 [.ref (w.2.2 31), P_z bf, P_z sm, P_z i, P_z y.1] [] _ _ from ?_)
        refine P_aw_op (L' := [.ref (w.2.2 31), P_z bf, P_z sm, P_z (i + 1), P_z y.1]) (st' := []) P_i13_38 (P_o_iinc rfl) (show P_aw _ _ _ 41 [.ref (w.2.2 31), P_z bf, P_z sm, P_z (i + 1), P_z y.1] [] _ _ from ?_)
        refine P_aw_goto P_i13_41 (show P_aw _ _ _ 5 [.ref (w.2.2 31), P_z bf, P_z sm, P_z (i + 1), P_un] [] _ _ from ?_)
        exact ih (A ++ [y]) B (i + 1) sm (by rw [hcs]; exact A_appk) (by rw [hi]; simp) hlB (by omega) (P_qz (by simp only [A_sk]; first | rw [if_pos (by omega)] | rw [if_neg (by omega)]) rfl q)
    · refine P_aw_ict P_i13_26 ⟨by omega, by omega⟩ ⟨by omega, by omega⟩ (P_ci_let (by omega)) (show P_aw _ _ _ 38 [.ref (w.2.2 31), P_z bf, P_z sm, P_z i, P_z y.1] [] _ _ from ?_)
      refine P_aw_op (L' := [.ref (w.2.2 31), P_z bf, P_z sm, P_z (i + 1), P_z y.1]) (st' := []) P_i13_38 (P_o_iinc rfl) (show P_aw _ _ _ 41 [.ref (w.2.2 31), P_z bf, P_z sm, P_z (i + 1), P_z y.1] [] _ _ from ?_)
      refine P_aw_goto P_i13_41 (show P_aw _ _ _ 5 [.ref (w.2.2 31), P_z bf, P_z sm, P_z (i + 1), P_un] [] _ _ from ?_)
      exact ih (A ++ [y]) B (i + 1) sm (by rw [hcs]; exact A_appk) (by rw [hi]; simp) hlB (by omega) (P_qz (by simp only [A_sk]; first | rw [if_pos (by omega)] | rw [if_neg (by omega)]) rfl q)

theorem s_sk {w : P_Lw} (hw : P_Cw w) {d : Nat} {Q : P_R → P_A → Prop} {σ : P_A} {l : List A_kf} {bf : Int} (hbf : -1000000000 ≤ bf ∧ bf ≤ 1000000000) (hK : A_KF σ l) (q : Q (.inl (some (P_z (A_sk bf l 1000000000)))) σ) : P_aw w (d + 2) 13 0 [.ref (w.2.2 31), P_z bf, P_un, P_un, P_un] [] σ Q := by
  refine P_aw_op (L' := [.ref (w.2.2 31), P_z bf, P_un, P_un, P_un]) (st' := [P_z 1000000000]) P_i13_0 rfl (show P_aw _ _ _ 2 [.ref (w.2.2 31), P_z bf, P_un, P_un, P_un] [P_z 1000000000] _ _ from ?_)
  refine P_aw_op (L' := [.ref (w.2.2 31), P_z bf, P_z 1000000000, P_un, P_un]) (st' := []) P_i13_2 rfl (show P_aw _ _ _ 3 [.ref (w.2.2 31), P_z bf, P_z 1000000000, P_un, P_un] [] _ _ from ?_)
  refine P_aw_op (L' := [.ref (w.2.2 31), P_z bf, P_z 1000000000, P_un, P_un]) (st' := [P_z 0]) P_i13_3 rfl (show P_aw _ _ _ 4 [.ref (w.2.2 31), P_z bf, P_z 1000000000, P_un, P_un] [P_z 0] _ _ from ?_)
  refine P_aw_op (L' := [.ref (w.2.2 31), P_z bf, P_z 1000000000, P_z 0, P_un]) (st' := []) P_i13_4 rfl (show P_aw _ _ _ 5 [.ref (w.2.2 31), P_z bf, P_z 1000000000, P_z 0, P_un] [] _ _ from ?_)
  exact s_skl hw hbf hK l.length [] l 0 1000000000 rfl rfl rfl (by omega) q

/-- the numbers of those with one key -/
def A_eq (ky : Int) (l : List A_kf) : List A_kf := l.filter (fun y => decide (y.1 = ky))
def A_SR (σ : P_A) (s : List A_kf) : Prop := ∀ j, j < s.length → σ 41 j = (A_at s j).2
theorem A_SR_add {σ : P_A} {s : List A_kf} {y : A_kf} {d : Int} (hd : d = ((s.length : Nat) : Int)) (h : A_SR σ s) : A_SR (P_u2 σ 41 d.toNat y.2) (s ++ [y]) := by
  intro j hj
  simp at hj
  by_cases e : j = s.length
  · have e2 : d.toNat = j := by omega
    rw [e2, P_u2_at, e]
    have := A_at_mid (A := s) (B := []) (y := y) (i := ((s.length : Nat) : Int)) rfl
    rw [Int.toNat_natCast] at this
    rw [this]
  · rw [P_u2_ne (by omega), h j (by omega)]
    unfold A_at
    rw [List.getD_eq_getElem?_getD, List.getD_eq_getElem?_getD, List.getElem?_append_left (by omega)]
theorem s_so2 {w : P_Lw} (hw : P_Cw w) {d : Nat} {Q : P_R → P_A → Prop} {l : List A_kf} {bf tn ky : Int} (hky : -1000000000 ≤ ky ∧ ky ≤ 1000000000) : ∀ (n : Nat) (σ : P_A) (A B s : List A_kf) (i dn : Int), A_KF σ l → l = A ++ B → i = ((A.length : Nat) : Int) → B.length = n → dn = ((s.length : Nat) : Int) → A_SR σ s → s.length + (A_eq ky B).length ≤ 2744 → (∀ σ' : P_A, (∀ a b, a ≠ 41 → σ' a b = σ a b) → A_SR σ' (s ++ A_eq ky B) → P_aw w (d + 3) 12 80 [.ref (w.2.2 31), P_z (((s ++ A_eq ky B).length : Nat) : Int), P_un, P_z tn, P_z ky, P_z ((l.length : Nat) : Int)] [] σ' Q) → P_aw w (d + 3) 12 31 [.ref (w.2.2 31), P_z dn, P_un, P_z tn, P_z ky, P_z i] [] σ Q := by
  intro n
  induction n with
  | zero =>
    intro σ A B s i dn hK hcs hi hB hd hS hfit q
    obtain rfl : B = [] := List.length_eq_zero_iff.mp hB
    have hl : i = (l.length : Int) := by rw [hcs, hi]; simp
    have hz := hK.2.1
    refine P_aw_op (L' := [.ref (w.2.2 31), P_z dn, P_un, P_z tn, P_z ky, P_z i]) (st' := [P_z i]) P_i12_31 rfl (show P_aw _ _ _ 33 [.ref (w.2.2 31), P_z dn, P_un, P_z tn, P_z ky, P_z i] [P_z i] _ _ from ?_)
    refine P_aw_op (L' := [.ref (w.2.2 31), P_z dn, P_un, P_z tn, P_z ky, P_z i]) (st' := [.ref (w.2.2 31), P_z i]) P_i12_33 rfl (show P_aw _ _ _ 34 [.ref (w.2.2 31), P_z dn, P_un, P_z tn, P_z ky, P_z i] [.ref (w.2.2 31), P_z i] _ _ from ?_)
    refine P_aw_getv P_i12_34 (hw.2.1 31 (by decide)) (hw.s rfl) rfl rfl (hK.1) (show P_aw _ _ _ 37 [.ref (w.2.2 31), P_z dn, P_un, P_z tn, P_z ky, P_z i] [P_z ((l.length : Nat) : Int), P_z i] _ _ from ?_)
    refine P_aw_ict P_i12_37 ⟨by omega, by omega⟩ ⟨by omega, by omega⟩ (P_ci_get (by omega)) (show P_aw _ _ _ 80 [.ref (w.2.2 31), P_z dn, P_un, P_z tn, P_z ky, P_z i] [] _ _ from ?_)
    have e : s ++ A_eq ky [] = s := (by simp [A_eq]); have q2 := q σ (fun _ _ _ => rfl) (by rw [e]; exact hS); rw [e, ← hd, ← hl] at q2; exact q2
  | succ n ih =>
    intro σ A B s i dn hK hcs hi hB hd hS hfit q
    obtain ⟨y, B, rfl⟩ : ∃ x B', B = x :: B' := by
      cases B with
      | nil => exact absurd hB (by simp)
      | cons x B => exact ⟨x, B, rfl⟩
    have hlB : B.length = n := Nat.succ.inj hB
    have hl : (l.length : Int) = i + 1 + (n : Int) := by rw [hcs, hi, A_lenk, hlB]
    have hy : A_at l i.toNat = y := by rw [hcs]; exact A_at_mid hi
    have hyr := hK.2.2.2 y (by rw [hcs]; simp)
    have hz := hK.2.1
    have hfe : y.1 = ky → (A_eq ky (y :: B)).length = (A_eq ky B).length + 1 := fun h => by unfold A_eq; rw [List.filter_cons, if_pos (by simp; exact h)]; simp
    have hfd : y.1 = ky → dn < 2744 := fun h => by have := hfe h; omega
    refine P_aw_op (L' := [.ref (w.2.2 31), P_z dn, P_un, P_z tn, P_z ky, P_z i]) (st' := [P_z i]) P_i12_31 rfl (show P_aw _ _ _ 33 [.ref (w.2.2 31), P_z dn, P_un, P_z tn, P_z ky, P_z i] [P_z i] _ _ from ?_)
    refine P_aw_op (L' := [.ref (w.2.2 31), P_z dn, P_un, P_z tn, P_z ky, P_z i]) (st' := [.ref (w.2.2 31), P_z i]) P_i12_33 rfl (show P_aw _ _ _ 34 [.ref (w.2.2 31), P_z dn, P_un, P_z tn, P_z ky, P_z i] [.ref (w.2.2 31), P_z i] _ _ from ?_)
    refine P_aw_getv P_i12_34 (hw.2.1 31 (by decide)) (hw.s rfl) rfl rfl (hK.1) (show P_aw _ _ _ 37 [.ref (w.2.2 31), P_z dn, P_un, P_z tn, P_z ky, P_z i] [P_z ((l.length : Nat) : Int), P_z i] _ _ from ?_)
    refine P_aw_icf P_i12_37 ⟨by omega, by omega⟩ ⟨by omega, by omega⟩ (P_ci_gef (by omega)) (show P_aw _ _ _ 40 [.ref (w.2.2 31), P_z dn, P_un, P_z tn, P_z ky, P_z i] [] _ _ from ?_)
    refine P_aw_op (L' := [.ref (w.2.2 31), P_z dn, P_un, P_z tn, P_z ky, P_z i]) (st' := [.ref (w.2.2 31)]) P_i12_40 rfl (show P_aw _ _ _ 41 [.ref (w.2.2 31), P_z dn, P_un, P_z tn, P_z ky, P_z i] [.ref (w.2.2 31)] _ _ from ?_)
    refine P_aw_getR P_i12_41 (hw.2.1 31 (by decide)) (hw.s rfl) rfl rfl (show P_aw _ _ _ 44 [.ref (w.2.2 31), P_z dn, P_un, P_z tn, P_z ky, P_z i] [.ref (w.2.2 40)] _ _ from ?_)
    refine P_aw_op (L' := [.ref (w.2.2 31), P_z dn, P_un, P_z tn, P_z ky, P_z i]) (st' := [P_z i, .ref (w.2.2 40)]) P_i12_44 rfl (show P_aw _ _ _ 46 [.ref (w.2.2 31), P_z dn, P_un, P_z tn, P_z ky, P_z i] [P_z i, .ref (w.2.2 40)] _ _ from ?_)
    refine P_aw_call P_i12_46 rfl rfl (fun _ => rfl) rfl rfl rfl rfl (y2 := 178) (as := [.ref (w.2.2 40), P_z i]) (r0 := []) (fun _ _ => rfl) (Nat.le_of_ble_eq_true rfl) (by decide) rfl (Nat.le_of_ble_eq_true rfl) (show P_aw _ _ _ 0 [.ref (w.2.2 40), P_z i] [] _ _ from ?_)
    refine P_aw_op (L' := [.ref (w.2.2 40), P_z i]) (st' := [P_z i]) P_i178_0 rfl (show P_aw _ _ _ 1 [.ref (w.2.2 40), P_z i] [P_z i] _ _ from ?_)
    refine P_aw_izf P_i178_1 ⟨by omega, by omega⟩ (P_ci_ltf (by omega)) (show P_aw _ _ _ 4 [.ref (w.2.2 40), P_z i] [] _ _ from ?_)
    refine P_aw_op (L' := [.ref (w.2.2 40), P_z i]) (st' := [P_z i]) P_i178_4 rfl (show P_aw _ _ _ 5 [.ref (w.2.2 40), P_z i] [P_z i] _ _ from ?_)
    refine P_aw_op (L' := [.ref (w.2.2 40), P_z i]) (st' := [.ref (w.2.2 40), P_z i]) P_i178_5 rfl (show P_aw _ _ _ 6 [.ref (w.2.2 40), P_z i] [.ref (w.2.2 40), P_z i] _ _ from ?_)
    refine P_aw_alen P_i178_6 (hw.2.1 40 (by decide)) (hw.s rfl) (show P_aw _ _ _ 7 [.ref (w.2.2 40), P_z i] [P_z 2744, P_z i] _ _ from ?_)
    refine P_aw_icf P_i178_7 ⟨by omega, by omega⟩ ⟨by decide, by decide⟩ (P_ci_gef (by omega)) (show P_aw _ _ _ 10 [.ref (w.2.2 40), P_z i] [] _ _ from ?_)
    refine P_aw_op (L' := [.ref (w.2.2 40), P_z i]) (st' := [.ref (w.2.2 40)]) P_i178_10 rfl (show P_aw _ _ _ 11 [.ref (w.2.2 40), P_z i] [.ref (w.2.2 40)] _ _ from ?_)
    refine P_aw_op (L' := [.ref (w.2.2 40), P_z i]) (st' := [P_z i, .ref (w.2.2 40)]) P_i178_11 rfl (show P_aw _ _ _ 12 [.ref (w.2.2 40), P_z i] [P_z i, .ref (w.2.2 40)] _ _ from ?_)
    have hg1 := hyr
    refine P_aw_aldv P_i178_12 (hw.2.1 40 (by decide)) (hw.s rfl) (by omega) (by omega) (by decide) ((hK.2.2.1 i.toNat (by omega)).1.trans (by rw [hy])) (show P_aw _ _ _ 13 [.ref (w.2.2 40), P_z i] [P_z y.1] _ _ from ?_)
    refine P_aw_goto P_i178_13 (show P_aw _ _ _ 17 [.ref (w.2.2 40), P_z i] [P_z y.1] _ _ from ?_)
    refine P_aw_end P_i178_17 rfl rfl (fun _ => rfl) rfl ?_
    show P_aw _ _ _ 49 [.ref (w.2.2 31), P_z dn, P_un, P_z tn, P_z ky, P_z i] [P_z y.1] _ _
    refine P_aw_op (L' := [.ref (w.2.2 31), P_z dn, P_un, P_z tn, P_z ky, P_z i]) (st' := [P_z ky, P_z y.1]) P_i12_49 rfl (show P_aw _ _ _ 51 [.ref (w.2.2 31), P_z dn, P_un, P_z tn, P_z ky, P_z i] [P_z ky, P_z y.1] _ _ from ?_)
    by_cases hc2 : y.1 = ky
    · refine P_aw_icf P_i12_51 ⟨by omega, by omega⟩ ⟨by omega, by omega⟩ (P_ci_nef (by omega)) (show P_aw _ _ _ 54 [.ref (w.2.2 31), P_z dn, P_un, P_z tn, P_z ky, P_z i] [] _ _ from ?_)
      refine P_aw_op (L' := [.ref (w.2.2 31), P_z dn, P_un, P_z tn, P_z ky, P_z i]) (st' := [.ref (w.2.2 31)]) P_i12_54 rfl (show P_aw _ _ _ 55 [.ref (w.2.2 31), P_z dn, P_un, P_z tn, P_z ky, P_z i] [.ref (w.2.2 31)] _ _ from ?_)
      refine P_aw_getR P_i12_55 (hw.2.1 31 (by decide)) (hw.s rfl) rfl rfl (show P_aw _ _ _ 58 [.ref (w.2.2 31), P_z dn, P_un, P_z tn, P_z ky, P_z i] [.ref (w.2.2 41)] _ _ from ?_)
      refine P_aw_op (L' := [.ref (w.2.2 31), P_z dn, P_un, P_z tn, P_z ky, P_z i]) (st' := [P_z dn, .ref (w.2.2 41)]) P_i12_58 rfl (show P_aw _ _ _ 59 [.ref (w.2.2 31), P_z dn, P_un, P_z tn, P_z ky, P_z i] [P_z dn, .ref (w.2.2 41)] _ _ from ?_)
      refine P_aw_op (L' := [.ref (w.2.2 31), P_z dn, P_un, P_z tn, P_z ky, P_z i]) (st' := [.ref (w.2.2 31), P_z dn, .ref (w.2.2 41)]) P_i12_59 rfl (show P_aw _ _ _ 60 [.ref (w.2.2 31), P_z dn, P_un, P_z tn, P_z ky, P_z i] [.ref (w.2.2 31), P_z dn, .ref (w.2.2 41)] _ _ from ?_)
      refine P_aw_getR P_i12_60 (hw.2.1 31 (by decide)) (hw.s rfl) rfl rfl (show P_aw _ _ _ 63 [.ref (w.2.2 31), P_z dn, P_un, P_z tn, P_z ky, P_z i] [.ref (w.2.2 37), P_z dn, .ref (w.2.2 41)] _ _ from ?_)
      refine P_aw_op (L' := [.ref (w.2.2 31), P_z dn, P_un, P_z tn, P_z ky, P_z i]) (st' := [P_z i, .ref (w.2.2 37), P_z dn, .ref (w.2.2 41)]) P_i12_63 rfl (show P_aw _ _ _ 65 [.ref (w.2.2 31), P_z dn, P_un, P_z tn, P_z ky, P_z i] [P_z i, .ref (w.2.2 37), P_z dn, .ref (w.2.2 41)] _ _ from ?_)
      refine P_aw_call P_i12_65 rfl rfl (fun _ => rfl) rfl rfl rfl rfl (y2 := 178) (as := [.ref (w.2.2 37), P_z i]) (r0 := [P_z dn, .ref (w.2.2 41)]) (fun _ _ => rfl) (Nat.le_of_ble_eq_true rfl) (by decide) rfl (Nat.le_of_ble_eq_true rfl) (show P_aw _ _ _ 0 [.ref (w.2.2 37), P_z i] [] _ _ from ?_)
      refine P_aw_op (L' := [.ref (w.2.2 37), P_z i]) (st' := [P_z i]) P_i178_0 rfl (show P_aw _ _ _ 1 [.ref (w.2.2 37), P_z i] [P_z i] _ _ from ?_)
      refine P_aw_izf P_i178_1 ⟨by omega, by omega⟩ (P_ci_ltf (by omega)) (show P_aw _ _ _ 4 [.ref (w.2.2 37), P_z i] [] _ _ from ?_)
      refine P_aw_op (L' := [.ref (w.2.2 37), P_z i]) (st' := [P_z i]) P_i178_4 rfl (show P_aw _ _ _ 5 [.ref (w.2.2 37), P_z i] [P_z i] _ _ from ?_)
      refine P_aw_op (L' := [.ref (w.2.2 37), P_z i]) (st' := [.ref (w.2.2 37), P_z i]) P_i178_5 rfl (show P_aw _ _ _ 6 [.ref (w.2.2 37), P_z i] [.ref (w.2.2 37), P_z i] _ _ from ?_)
      refine P_aw_alen P_i178_6 (hw.2.1 37 (by decide)) (hw.s rfl) (show P_aw _ _ _ 7 [.ref (w.2.2 37), P_z i] [P_z 2744, P_z i] _ _ from ?_)
      refine P_aw_icf P_i178_7 ⟨by omega, by omega⟩ ⟨by decide, by decide⟩ (P_ci_gef (by omega)) (show P_aw _ _ _ 10 [.ref (w.2.2 37), P_z i] [] _ _ from ?_)
      refine P_aw_op (L' := [.ref (w.2.2 37), P_z i]) (st' := [.ref (w.2.2 37)]) P_i178_10 rfl (show P_aw _ _ _ 11 [.ref (w.2.2 37), P_z i] [.ref (w.2.2 37)] _ _ from ?_)
      refine P_aw_op (L' := [.ref (w.2.2 37), P_z i]) (st' := [P_z i, .ref (w.2.2 37)]) P_i178_11 rfl (show P_aw _ _ _ 12 [.ref (w.2.2 37), P_z i] [P_z i, .ref (w.2.2 37)] _ _ from ?_)
      refine P_aw_aldv P_i178_12 (hw.2.1 37 (by decide)) (hw.s rfl) (by omega) (by omega) (by decide) ((hK.2.2.1 i.toNat (by omega)).2.trans (by rw [hy])) (show P_aw _ _ _ 13 [.ref (w.2.2 37), P_z i] [P_z y.2] _ _ from ?_)
      refine P_aw_goto P_i178_13 (show P_aw _ _ _ 17 [.ref (w.2.2 37), P_z i] [P_z y.2] _ _ from ?_)
      refine P_aw_end P_i178_17 rfl rfl (fun _ => rfl) rfl ?_
      show P_aw _ _ _ 68 [.ref (w.2.2 31), P_z dn, P_un, P_z tn, P_z ky, P_z i] [P_z y.2, P_z dn, .ref (w.2.2 41)] _ _
      refine P_aw_call P_i12_68 rfl rfl (fun _ => rfl) rfl rfl rfl rfl (y2 := 179) (as := [.ref (w.2.2 41), P_z dn, P_z y.2]) (r0 := []) (fun _ _ => rfl) (Nat.le_of_ble_eq_true rfl) (by decide) rfl (Nat.le_of_ble_eq_true rfl) (show P_aw _ _ _ 0 [.ref (w.2.2 41), P_z dn, P_z y.2] [] _ _ from ?_)
      refine P_aw_op (L' := [.ref (w.2.2 41), P_z dn, P_z y.2]) (st' := [P_z dn]) P_i179_0 rfl (show P_aw _ _ _ 1 [.ref (w.2.2 41), P_z dn, P_z y.2] [P_z dn] _ _ from ?_)
      refine P_aw_izf P_i179_1 ⟨by omega, by omega⟩ (P_ci_ltf (by omega)) (show P_aw _ _ _ 4 [.ref (w.2.2 41), P_z dn, P_z y.2] [] _ _ from ?_)
      refine P_aw_op (L' := [.ref (w.2.2 41), P_z dn, P_z y.2]) (st' := [P_z dn]) P_i179_4 rfl (show P_aw _ _ _ 5 [.ref (w.2.2 41), P_z dn, P_z y.2] [P_z dn] _ _ from ?_)
      refine P_aw_op (L' := [.ref (w.2.2 41), P_z dn, P_z y.2]) (st' := [.ref (w.2.2 41), P_z dn]) P_i179_5 rfl (show P_aw _ _ _ 6 [.ref (w.2.2 41), P_z dn, P_z y.2] [.ref (w.2.2 41), P_z dn] _ _ from ?_)
      refine P_aw_alen P_i179_6 (hw.2.1 41 (by decide)) (hw.s rfl) (show P_aw _ _ _ 7 [.ref (w.2.2 41), P_z dn, P_z y.2] [P_z 2744, P_z dn] _ _ from ?_)
      refine P_aw_icf P_i179_7 ⟨by omega, by omega⟩ ⟨by decide, by decide⟩ (P_ci_gef (by omega)) (show P_aw _ _ _ 10 [.ref (w.2.2 41), P_z dn, P_z y.2] [] _ _ from ?_)
      refine P_aw_op (L' := [.ref (w.2.2 41), P_z dn, P_z y.2]) (st' := [.ref (w.2.2 41)]) P_i179_10 rfl (show P_aw _ _ _ 11 [.ref (w.2.2 41), P_z dn, P_z y.2] [.ref (w.2.2 41)] _ _ from ?_)
      refine P_aw_op (L' := [.ref (w.2.2 41), P_z dn, P_z y.2]) (st' := [P_z dn, .ref (w.2.2 41)]) P_i179_11 rfl (show P_aw _ _ _ 12 [.ref (w.2.2 41), P_z dn, P_z y.2] [P_z dn, .ref (w.2.2 41)] _ _ from ?_)
      refine P_aw_op (L' := [.ref (w.2.2 41), P_z dn, P_z y.2]) (st' := [P_z y.2, P_z dn, .ref (w.2.2 41)]) P_i179_12 rfl (show P_aw _ _ _ 13 [.ref (w.2.2 41), P_z dn, P_z y.2] [P_z y.2, P_z dn, .ref (w.2.2 41)] _ _ from ?_)
      refine P_aw_ast P_i179_13 (hw.2.1 41 (by decide)) (hw.s rfl) (by omega) (by omega) (by decide) (show P_aw _ _ _ 14 [.ref (w.2.2 41), P_z dn, P_z y.2] [] _ _ from ?_)
      refine P_aw_end P_i179_14 rfl rfl (fun _ => rfl) rfl ?_
      show P_aw _ _ _ 71 [.ref (w.2.2 31), P_z dn, P_un, P_z tn, P_z ky, P_z i] [] _ _
      refine P_aw_op (L' := [.ref (w.2.2 31), P_z (dn + 1), P_un, P_z tn, P_z ky, P_z i]) (st' := []) P_i12_71 (P_o_iinc rfl) (show P_aw _ _ _ 74 [.ref (w.2.2 31), P_z (dn + 1), P_un, P_z tn, P_z ky, P_z i] [] _ _ from ?_)
      refine P_aw_op (L' := [.ref (w.2.2 31), P_z (dn + 1), P_un, P_z tn, P_z ky, P_z (i + 1)]) (st' := []) P_i12_74 (P_o_iinc rfl) (show P_aw _ _ _ 77 [.ref (w.2.2 31), P_z (dn + 1), P_un, P_z tn, P_z ky, P_z (i + 1)] [] _ _ from ?_)
      refine P_aw_goto P_i12_77 (show P_aw _ _ _ 31 [.ref (w.2.2 31), P_z (dn + 1), P_un, P_z tn, P_z ky, P_z (i + 1)] [] _ _ from ?_)
      have e : s ++ A_eq ky (y :: B) = (s ++ [y]) ++ A_eq ky B := (by unfold A_eq; rw [List.filter_cons, if_pos (by simp; omega)]; simp); exact ih _ (A ++ [y]) B (s ++ [y]) (i + 1) (dn + 1) (A_KF_cg (P_u2_ne (by omega)) (fun b => P_u2_ne (by omega)) (fun b => P_u2_ne (by omega)) hK) (by rw [hcs]; exact A_appk) (by rw [hi]; simp) hlB (by rw [hd]; simp) (A_SR_add hd hS) (by rw [hfe (by omega)] at hfit; simp; omega) (fun σ' h1 h2 => by have q2 := q σ' (fun a b h => (h1 a b h).trans (P_u2_ne (by omega))) (by rw [e]; exact h2); rw [e] at q2; exact q2)
    · refine P_aw_ict P_i12_51 ⟨by omega, by omega⟩ ⟨by omega, by omega⟩ (P_ci_net (by omega)) (show P_aw _ _ _ 74 [.ref (w.2.2 31), P_z dn, P_un, P_z tn, P_z ky, P_z i] [] _ _ from ?_)
      refine P_aw_op (L' := [.ref (w.2.2 31), P_z dn, P_un, P_z tn, P_z ky, P_z (i + 1)]) (st' := []) P_i12_74 (P_o_iinc rfl) (show P_aw _ _ _ 77 [.ref (w.2.2 31), P_z dn, P_un, P_z tn, P_z ky, P_z (i + 1)] [] _ _ from ?_)
      refine P_aw_goto P_i12_77 (show P_aw _ _ _ 31 [.ref (w.2.2 31), P_z dn, P_un, P_z tn, P_z ky, P_z (i + 1)] [] _ _ from ?_)
      have e : A_eq ky (y :: B) = A_eq ky B := (by unfold A_eq; rw [List.filter_cons, if_neg (by simp; omega)]); exact ih σ (A ++ [y]) B s (i + 1) dn hK (by rw [hcs]; exact A_appk) (by rw [hi]; simp) hlB hd hS (by rw [e] at hfit; exact hfit) (fun σ' h1 h2 => by have q2 := q σ' h1 (by rw [e]; exact h2); rw [e] at q2; exact q2)

theorem s_so3 {w : P_Lw} (hw : P_Cw w) {d : Nat} {Q : P_R → P_A → Prop} {sl : List A_kf} (h27 : sl.length ≤ 2744) : ∀ (n : Nat) (σ : P_A) (i : Int), σ 31 14 = ((sl.length : Nat) : Int) → A_SR σ sl → 0 ≤ i → ((sl.length : Nat) : Int) = i + (n : Int) → (∀ j : Nat, (j : Int) < i → σ 37 j = (A_at sl j).2) → (∀ σ' : P_A, (∀ a b, a ≠ 37 → σ' a b = σ a b) → (∀ j, j < sl.length → σ' 37 j = (A_at sl j).2) → Q (.inl none) σ') → P_aw w (d + 3) 12 91 [.ref (w.2.2 31), P_un, P_un, P_z i, P_un, P_un] [] σ Q := by
  intro n
  induction n with
  | zero =>
    intro σ i hz hS hi hl hF q
    refine P_aw_op (L' := [.ref (w.2.2 31), P_un, P_un, P_z i, P_un, P_un]) (st' := [P_z i]) P_i12_91 rfl (show P_aw _ _ _ 92 [.ref (w.2.2 31), P_un, P_un, P_z i, P_un, P_un] [P_z i] _ _ from ?_)
    refine P_aw_op (L' := [.ref (w.2.2 31), P_un, P_un, P_z i, P_un, P_un]) (st' := [.ref (w.2.2 31), P_z i]) P_i12_92 rfl (show P_aw _ _ _ 93 [.ref (w.2.2 31), P_un, P_un, P_z i, P_un, P_un] [.ref (w.2.2 31), P_z i] _ _ from ?_)
    refine P_aw_getv P_i12_93 (hw.2.1 31 (by decide)) (hw.s rfl) rfl rfl (hz) (show P_aw _ _ _ 96 [.ref (w.2.2 31), P_un, P_un, P_z i, P_un, P_un] [P_z ((sl.length : Nat) : Int), P_z i] _ _ from ?_)
    refine P_aw_ict P_i12_96 ⟨by omega, by omega⟩ ⟨by omega, by omega⟩ (P_ci_get (by omega)) (show P_aw _ _ _ 121 [.ref (w.2.2 31), P_un, P_un, P_z i, P_un, P_un] [] _ _ from ?_)
    refine P_aw_end P_i12_121 rfl rfl (fun _ => rfl) rfl ?_
    exact q σ (fun _ _ _ => rfl) (fun j hj => hF j (by omega))
  | succ n ih =>
    intro σ i hz hS hi hl hF q
    refine P_aw_op (L' := [.ref (w.2.2 31), P_un, P_un, P_z i, P_un, P_un]) (st' := [P_z i]) P_i12_91 rfl (show P_aw _ _ _ 92 [.ref (w.2.2 31), P_un, P_un, P_z i, P_un, P_un] [P_z i] _ _ from ?_)
    refine P_aw_op (L' := [.ref (w.2.2 31), P_un, P_un, P_z i, P_un, P_un]) (st' := [.ref (w.2.2 31), P_z i]) P_i12_92 rfl (show P_aw _ _ _ 93 [.ref (w.2.2 31), P_un, P_un, P_z i, P_un, P_un] [.ref (w.2.2 31), P_z i] _ _ from ?_)
    refine P_aw_getv P_i12_93 (hw.2.1 31 (by decide)) (hw.s rfl) rfl rfl (hz) (show P_aw _ _ _ 96 [.ref (w.2.2 31), P_un, P_un, P_z i, P_un, P_un] [P_z ((sl.length : Nat) : Int), P_z i] _ _ from ?_)
    refine P_aw_icf P_i12_96 ⟨by omega, by omega⟩ ⟨by omega, by omega⟩ (P_ci_gef (by omega)) (show P_aw _ _ _ 99 [.ref (w.2.2 31), P_un, P_un, P_z i, P_un, P_un] [] _ _ from ?_)
    refine P_aw_op (L' := [.ref (w.2.2 31), P_un, P_un, P_z i, P_un, P_un]) (st' := [.ref (w.2.2 31)]) P_i12_99 rfl (show P_aw _ _ _ 100 [.ref (w.2.2 31), P_un, P_un, P_z i, P_un, P_un] [.ref (w.2.2 31)] _ _ from ?_)
    refine P_aw_getR P_i12_100 (hw.2.1 31 (by decide)) (hw.s rfl) rfl rfl (show P_aw _ _ _ 103 [.ref (w.2.2 31), P_un, P_un, P_z i, P_un, P_un] [.ref (w.2.2 37)] _ _ from ?_)
    refine P_aw_op (L' := [.ref (w.2.2 31), P_un, P_un, P_z i, P_un, P_un]) (st' := [P_z i, .ref (w.2.2 37)]) P_i12_103 rfl (show P_aw _ _ _ 104 [.ref (w.2.2 31), P_un, P_un, P_z i, P_un, P_un] [P_z i, .ref (w.2.2 37)] _ _ from ?_)
    refine P_aw_op (L' := [.ref (w.2.2 31), P_un, P_un, P_z i, P_un, P_un]) (st' := [.ref (w.2.2 31), P_z i, .ref (w.2.2 37)]) P_i12_104 rfl (show P_aw _ _ _ 105 [.ref (w.2.2 31), P_un, P_un, P_z i, P_un, P_un] [.ref (w.2.2 31), P_z i, .ref (w.2.2 37)] _ _ from ?_)
    refine P_aw_getR P_i12_105 (hw.2.1 31 (by decide)) (hw.s rfl) rfl rfl (show P_aw _ _ _ 108 [.ref (w.2.2 31), P_un, P_un, P_z i, P_un, P_un] [.ref (w.2.2 41), P_z i, .ref (w.2.2 37)] _ _ from ?_)
    refine P_aw_op (L' := [.ref (w.2.2 31), P_un, P_un, P_z i, P_un, P_un]) (st' := [P_z i, .ref (w.2.2 41), P_z i, .ref (w.2.2 37)]) P_i12_108 rfl (show P_aw _ _ _ 109 [.ref (w.2.2 31), P_un, P_un, P_z i, P_un, P_un] [P_z i, .ref (w.2.2 41), P_z i, .ref (w.2.2 37)] _ _ from ?_)
    refine P_aw_call P_i12_109 rfl rfl (fun _ => rfl) rfl rfl rfl rfl (y2 := 178) (as := [.ref (w.2.2 41), P_z i]) (r0 := [P_z i, .ref (w.2.2 37)]) (fun _ _ => rfl) (Nat.le_of_ble_eq_true rfl) (by decide) rfl (Nat.le_of_ble_eq_true rfl) (show P_aw _ _ _ 0 [.ref (w.2.2 41), P_z i] [] _ _ from ?_)
    refine P_aw_op (L' := [.ref (w.2.2 41), P_z i]) (st' := [P_z i]) P_i178_0 rfl (show P_aw _ _ _ 1 [.ref (w.2.2 41), P_z i] [P_z i] _ _ from ?_)
    refine P_aw_izf P_i178_1 ⟨by omega, by omega⟩ (P_ci_ltf (by omega)) (show P_aw _ _ _ 4 [.ref (w.2.2 41), P_z i] [] _ _ from ?_)
    refine P_aw_op (L' := [.ref (w.2.2 41), P_z i]) (st' := [P_z i]) P_i178_4 rfl (show P_aw _ _ _ 5 [.ref (w.2.2 41), P_z i] [P_z i] _ _ from ?_)
    refine P_aw_op (L' := [.ref (w.2.2 41), P_z i]) (st' := [.ref (w.2.2 41), P_z i]) P_i178_5 rfl (show P_aw _ _ _ 6 [.ref (w.2.2 41), P_z i] [.ref (w.2.2 41), P_z i] _ _ from ?_)
    refine P_aw_alen P_i178_6 (hw.2.1 41 (by decide)) (hw.s rfl) (show P_aw _ _ _ 7 [.ref (w.2.2 41), P_z i] [P_z 2744, P_z i] _ _ from ?_)
    refine P_aw_icf P_i178_7 ⟨by omega, by omega⟩ ⟨by decide, by decide⟩ (P_ci_gef (by omega)) (show P_aw _ _ _ 10 [.ref (w.2.2 41), P_z i] [] _ _ from ?_)
    refine P_aw_op (L' := [.ref (w.2.2 41), P_z i]) (st' := [.ref (w.2.2 41)]) P_i178_10 rfl (show P_aw _ _ _ 11 [.ref (w.2.2 41), P_z i] [.ref (w.2.2 41)] _ _ from ?_)
    refine P_aw_op (L' := [.ref (w.2.2 41), P_z i]) (st' := [P_z i, .ref (w.2.2 41)]) P_i178_11 rfl (show P_aw _ _ _ 12 [.ref (w.2.2 41), P_z i] [P_z i, .ref (w.2.2 41)] _ _ from ?_)
    refine P_aw_aldv P_i178_12 (hw.2.1 41 (by decide)) (hw.s rfl) (by omega) (by omega) (by decide) (hS i.toNat (by omega)) (show P_aw _ _ _ 13 [.ref (w.2.2 41), P_z i] [P_z (A_at sl i.toNat).2] _ _ from ?_)
    refine P_aw_goto P_i178_13 (show P_aw _ _ _ 17 [.ref (w.2.2 41), P_z i] [P_z (A_at sl i.toNat).2] _ _ from ?_)
    refine P_aw_end P_i178_17 rfl rfl (fun _ => rfl) rfl ?_
    show P_aw _ _ _ 112 [.ref (w.2.2 31), P_un, P_un, P_z i, P_un, P_un] [P_z (A_at sl i.toNat).2, P_z i, .ref (w.2.2 37)] _ _
    refine P_aw_call P_i12_112 rfl rfl (fun _ => rfl) rfl rfl rfl rfl (y2 := 179) (as := [.ref (w.2.2 37), P_z i, P_z (A_at sl i.toNat).2]) (r0 := []) (fun _ _ => rfl) (Nat.le_of_ble_eq_true rfl) (by decide) rfl (Nat.le_of_ble_eq_true rfl) (show P_aw _ _ _ 0 [.ref (w.2.2 37), P_z i, P_z (A_at sl i.toNat).2] [] _ _ from ?_)
    refine P_aw_op (L' := [.ref (w.2.2 37), P_z i, P_z (A_at sl i.toNat).2]) (st' := [P_z i]) P_i179_0 rfl (show P_aw _ _ _ 1 [.ref (w.2.2 37), P_z i, P_z (A_at sl i.toNat).2] [P_z i] _ _ from ?_)
    refine P_aw_izf P_i179_1 ⟨by omega, by omega⟩ (P_ci_ltf (by omega)) (show P_aw _ _ _ 4 [.ref (w.2.2 37), P_z i, P_z (A_at sl i.toNat).2] [] _ _ from ?_)
    refine P_aw_op (L' := [.ref (w.2.2 37), P_z i, P_z (A_at sl i.toNat).2]) (st' := [P_z i]) P_i179_4 rfl (show P_aw _ _ _ 5 [.ref (w.2.2 37), P_z i, P_z (A_at sl i.toNat).2] [P_z i] _ _ from ?_)
    refine P_aw_op (L' := [.ref (w.2.2 37), P_z i, P_z (A_at sl i.toNat).2]) (st' := [.ref (w.2.2 37), P_z i]) P_i179_5 rfl (show P_aw _ _ _ 6 [.ref (w.2.2 37), P_z i, P_z (A_at sl i.toNat).2] [.ref (w.2.2 37), P_z i] _ _ from ?_)
    refine P_aw_alen P_i179_6 (hw.2.1 37 (by decide)) (hw.s rfl) (show P_aw _ _ _ 7 [.ref (w.2.2 37), P_z i, P_z (A_at sl i.toNat).2] [P_z 2744, P_z i] _ _ from ?_)
    refine P_aw_icf P_i179_7 ⟨by omega, by omega⟩ ⟨by decide, by decide⟩ (P_ci_gef (by omega)) (show P_aw _ _ _ 10 [.ref (w.2.2 37), P_z i, P_z (A_at sl i.toNat).2] [] _ _ from ?_)
    refine P_aw_op (L' := [.ref (w.2.2 37), P_z i, P_z (A_at sl i.toNat).2]) (st' := [.ref (w.2.2 37)]) P_i179_10 rfl (show P_aw _ _ _ 11 [.ref (w.2.2 37), P_z i, P_z (A_at sl i.toNat).2] [.ref (w.2.2 37)] _ _ from ?_)
    refine P_aw_op (L' := [.ref (w.2.2 37), P_z i, P_z (A_at sl i.toNat).2]) (st' := [P_z i, .ref (w.2.2 37)]) P_i179_11 rfl (show P_aw _ _ _ 12 [.ref (w.2.2 37), P_z i, P_z (A_at sl i.toNat).2] [P_z i, .ref (w.2.2 37)] _ _ from ?_)
    refine P_aw_op (L' := [.ref (w.2.2 37), P_z i, P_z (A_at sl i.toNat).2]) (st' := [P_z (A_at sl i.toNat).2, P_z i, .ref (w.2.2 37)]) P_i179_12 rfl (show P_aw _ _ _ 13 [.ref (w.2.2 37), P_z i, P_z (A_at sl i.toNat).2] [P_z (A_at sl i.toNat).2, P_z i, .ref (w.2.2 37)] _ _ from ?_)
    refine P_aw_ast P_i179_13 (hw.2.1 37 (by decide)) (hw.s rfl) (by omega) (by omega) (by decide) (show P_aw _ _ _ 14 [.ref (w.2.2 37), P_z i, P_z (A_at sl i.toNat).2] [] _ _ from ?_)
    refine P_aw_end P_i179_14 rfl rfl (fun _ => rfl) rfl ?_
    show P_aw _ _ _ 115 [.ref (w.2.2 31), P_un, P_un, P_z i, P_un, P_un] [] _ _
    refine P_aw_op (L' := [.ref (w.2.2 31), P_un, P_un, P_z (i + 1), P_un, P_un]) (st' := []) P_i12_115 (P_o_iinc rfl) (show P_aw _ _ _ 118 [.ref (w.2.2 31), P_un, P_un, P_z (i + 1), P_un, P_un] [] _ _ from ?_)
    refine P_aw_goto P_i12_118 (show P_aw _ _ _ 91 [.ref (w.2.2 31), P_un, P_un, P_z (i + 1), P_un, P_un] [] _ _ from ?_)
    exact ih _ (i + 1) ((P_u2_ne (by omega)).trans hz) (fun j hj => (P_u2_ne (by omega)).trans (hS j hj)) (by omega) (by omega) (fun j hj => by by_cases e : j = i.toNat; (rw [e, P_u2_at]); (rw [P_u2_ne (fun q => e q.2)]; exact hF j (by omega))) (fun σ' h1 h2 => q σ' (fun a b h => (h1 a b h).trans (P_u2_ne (by omega))) h2)

theorem A_sk_spec {bf : Int} : ∀ (l : List A_kf) (s : Int), A_sk bf l s ≤ s ∧ (∀ y ∈ l, bf < y.1 → A_sk bf l s ≤ y.1) ∧ (A_sk bf l s = s ∨ ∃ y ∈ l, y.1 = A_sk bf l s ∧ bf < A_sk bf l s)
  | [], s => ⟨Int.le_refl _, fun y hy => (by cases hy), Or.inl rfl⟩
  | x :: r, s => by
    simp only [A_sk]
    by_cases e : bf < x.1 ∧ x.1 < s
    · rw [if_pos e]
      obtain ⟨h1, h2, h3⟩ := A_sk_spec (bf := bf) r x.1
      refine ⟨by omega, fun y hy hb => ?_, Or.inr ?_⟩
      · rcases List.mem_cons.mp hy with rfl | hy
        · exact h1
        · exact h2 y hy hb
      · rcases h3 with h3 | ⟨y, g1, g2, g3⟩
        · exact ⟨x, List.mem_cons_self, h3.symm, by omega⟩
        · exact ⟨y, List.mem_cons_of_mem _ g1, g2, g3⟩
    · rw [if_neg e]
      obtain ⟨h1, h2, h3⟩ := A_sk_spec (bf := bf) r s
      refine ⟨h1, fun y hy hb => ?_, ?_⟩
      · rcases List.mem_cons.mp hy with rfl | hy
        · omega
        · exact h2 y hy hb
      · rcases h3 with h3 | ⟨y, g1, g2, g3⟩
        · exact Or.inl h3
        · exact Or.inr ⟨y, List.mem_cons_of_mem _ g1, g2, g3⟩
/-- those up to a key -/
def A_leq (bf : Int) (l : List A_kf) : List A_kf := l.filter (fun y => decide (y.1 ≤ bf))
theorem A_leq_all {bf : Int} {l : List A_kf} (h : ∀ y ∈ l, y.1 ≤ bf) : A_leq bf l = l := List.filter_eq_self.mpr (fun y hy => decide_eq_true (h y hy))
theorem A_leq_len {bf : Int} {l : List A_kf} : (A_leq bf l).length ≤ l.length := List.length_filter_le _ _
theorem A_leq_full {bf : Int} : ∀ {l : List A_kf}, l.length ≤ (A_leq bf l).length → ∀ y ∈ l, y.1 ≤ bf
  | [], _, y, hy => by cases hy
  | x :: r, h, y, hy => by
    unfold A_leq at h
    rw [List.filter_cons] at h
    by_cases e : x.1 ≤ bf
    · rw [if_pos (by simp [e])] at h
      rcases List.mem_cons.mp hy with rfl | hy
      · exact e
      · exact A_leq_full (by simp at h; exact h) y hy
    · rw [if_neg (by simp [e])] at h
      have := A_leq_len (bf := bf) (l := r)
      unfold A_leq at this
      simp at h
      omega
theorem A_leq_step {bf k : Int} {l : List A_kf} (hk : bf < k) (hm : ∀ y ∈ l, bf < y.1 → k ≤ y.1) : (A_leq bf l ++ A_eq k l).Perm (A_leq k l) := by
  have h := List.filter_append_perm (fun y : A_kf => decide (y.1 ≤ bf)) (A_leq k l)
  have e1 : (A_leq k l).filter (fun y => decide (y.1 ≤ bf)) = A_leq bf l := by
    unfold A_leq
    rw [List.filter_filter]
    apply List.filter_congr
    intro y hy
    rw [Bool.eq_iff_iff]
    simp only [Bool.and_eq_true, decide_eq_true_eq]
    omega
  have e2 : (A_leq k l).filter (fun y => !decide (y.1 ≤ bf)) = A_eq k l := by
    unfold A_leq A_eq
    rw [List.filter_filter]
    apply List.filter_congr
    intro y hy
    rw [Bool.eq_iff_iff]
    simp only [Bool.and_eq_true, Bool.not_eq_true', decide_eq_true_eq, decide_eq_false_iff_not]
    have := hm y hy
    omega
  rw [e1, e2] at h
  exact h
/-- in order of keys -/
def A_inc2 (sl : List A_kf) : Prop := sl.Pairwise (fun a b => a.1 ≤ b.1)
theorem A_inc2_app {bf k : Int} {sl l : List A_kf} (hs : A_inc2 sl) (hb : ∀ y ∈ sl, y.1 ≤ bf) (hk : bf < k) : A_inc2 (sl ++ A_eq k l) := by
  unfold A_inc2
  rw [List.pairwise_append]
  refine ⟨hs, ?_, fun a ha b hb2 => ?_⟩
  · rw [List.pairwise_iff_getElem]
    intro i j hi hj hij
    have h1 := List.getElem_mem hi
    have h2 := List.getElem_mem hj
    have g1 := of_decide_eq_true (List.mem_filter.mp h1).2
    have g2 := of_decide_eq_true (List.mem_filter.mp h2).2
    omega
  · have h1 := hb a ha
    have h2 := of_decide_eq_true (List.mem_filter.mp hb2).2
    omega
/-- the values behind a key -/
def A_gtF (bf : Int) (F : List Int) : List Int := F.filter (fun v => decide (bf < v))
theorem A_gtF_lt {bf k : Int} : ∀ {F : List Int}, bf < k → k ∈ F → (A_gtF k F).length < (A_gtF bf F).length
  | [], _, h => by cases h
  | x :: r, hb, h => by
    unfold A_gtF
    rw [List.filter_cons, List.filter_cons]
    have mono : ∀ r : List Int, (r.filter (fun v => decide (k < v))).length ≤ (r.filter (fun v => decide (bf < v))).length := by
      intro r
      induction r with
      | nil => exact Nat.le_refl _
      | cons z r ih =>
        rw [List.filter_cons, List.filter_cons]
        by_cases e : k < z
        · rw [if_pos (by simp [e]), if_pos (by simp; omega)]; simp; exact ih
        · rw [if_neg (by simp; omega)]
          split
          · simp; omega
          · exact ih
    rcases List.mem_cons.mp h with rfl | h
    · rw [if_neg (by simp), if_pos (by simp [hb])]
      have := mono r
      simp; omega
    · have ih := A_gtF_lt hb h
      unfold A_gtF at ih
      by_cases e : k < x
      · rw [if_pos (by simp [e]), if_pos (by simp; omega)]; simp; exact ih
      · rw [if_neg (by simp; omega)]
        split
        · simp; omega
        · exact ih
theorem A_gtF_0 {bf : Int} {F : List Int} {v : Int} (h : (A_gtF bf F).length = 0) (hv : v ∈ F) : v ≤ bf := by
  rcases Int.lt_or_le bf v with q | q
  · have : v ∈ A_gtF bf F := List.mem_filter.mpr ⟨hv, decide_eq_true q⟩
    rw [List.length_eq_zero_iff.mp h] at this
    cases this
  · exact q

theorem s_so1 {w : P_Lw} (hw : P_Cw w) {d : Nat} {Q : P_R → P_A → Prop} {l : List A_kf} {F : List Int} (hF : ∀ y ∈ l, y.1 ∈ F) : ∀ (n : Nat) (σ : P_A) (sl : List A_kf) (bf tn dn : Int), A_KF σ l → (-1000000000 ≤ bf ∧ bf ≤ 1000000000) → (0 ≤ tn ∧ tn + (n : Int) = 14) → dn = ((sl.length : Nat) : Int) → A_SR σ sl → sl.Perm (A_leq bf l) → A_inc2 sl → (A_gtF bf F).length ≤ n → (∀ (σ' : P_A) (sl : List A_kf), sl.Perm l → A_inc2 sl → (∀ a b, a ≠ 37 → a ≠ 41 → σ' a b = σ a b) → (∀ j, j < sl.length → σ' 37 j = (A_at sl j).2) → Q (.inl none) σ') → P_aw w (d + 4) 12 7 [.ref (w.2.2 31), P_z dn, P_z bf, P_z tn, P_un, P_un] [] σ Q := by
  intro n
  induction n with
  | zero =>
    intro σ sl bf tn dn hK hbf htn hd hS hpl hi2 hgt q
    have hz := hK.2.1
    have hln := hpl.length_eq
    have hll := A_leq_len (bf := bf) (l := l)
    have hbn : ∀ y ∈ sl, y.1 ≤ bf := fun y hy => of_decide_eq_true (List.mem_filter.mp (hpl.mem_iff.mp hy)).2
    have hfin2 : (∀ y ∈ l, y.1 ≤ bf) → dn = (l.length : Int) := fun h => by rw [A_leq_all h] at hln; omega
    have hfin : (l.length : Int) ≤ dn → sl.Perm l := fun h => by
      have h2 := A_leq_all (A_leq_full (bf := bf) (l := l) (by omega))
      rw [h2] at hpl
      exact hpl
    have hdl := hfin2 (fun y hy => A_gtF_0 (Nat.le_zero.mp hgt) (hF y hy))
    refine P_aw_op (L' := [.ref (w.2.2 31), P_z dn, P_z bf, P_z tn, P_un, P_un]) (st' := [P_z tn]) P_i12_7 rfl (show P_aw _ _ _ 8 [.ref (w.2.2 31), P_z dn, P_z bf, P_z tn, P_un, P_un] [P_z tn] _ _ from ?_)
    refine P_aw_op (L' := [.ref (w.2.2 31), P_z dn, P_z bf, P_z tn, P_un, P_un]) (st' := [P_z 14, P_z tn]) P_i12_8 (P_o_bi (by decide)) (show P_aw _ _ _ 10 [.ref (w.2.2 31), P_z dn, P_z bf, P_z tn, P_un, P_un] [P_z 14, P_z tn] _ _ from ?_)
    refine P_aw_ict P_i12_10 ⟨by omega, by omega⟩ ⟨by decide, by decide⟩ (P_ci_get (by omega)) (show P_aw _ _ _ 89 [.ref (w.2.2 31), P_z dn, P_z bf, P_z tn, P_un, P_un] [] _ _ from ?_)
    refine P_aw_op (L' := [.ref (w.2.2 31), P_z dn, P_z bf, P_z tn, P_un, P_un]) (st' := [P_z 0]) P_i12_89 rfl (show P_aw _ _ _ 90 [.ref (w.2.2 31), P_z dn, P_z bf, P_z tn, P_un, P_un] [P_z 0] _ _ from ?_)
    refine P_aw_op (L' := [.ref (w.2.2 31), P_z dn, P_z bf, P_z 0, P_un, P_un]) (st' := []) P_i12_90 rfl (show P_aw _ _ _ 91 [.ref (w.2.2 31), P_un, P_un, P_z 0, P_un, P_un] [] _ _ from ?_)
    have hp := hfin (by omega)
    have hpl := hp.length_eq
    exact s_so3 hw (by rw [hpl]; exact hK.2.1) sl.length σ 0 (by rw [hpl]; exact hK.1) hS (by omega) (by omega) (fun j hj => by omega) (fun σ' h1 h2 => q σ' sl hp hi2 (fun a b h3 h4 => h1 a b h3) h2)
  | succ n ih =>
    intro σ sl bf tn dn hK hbf htn hd hS hpl hi2 hgt q
    have hz := hK.2.1
    have hln := hpl.length_eq
    have hll := A_leq_len (bf := bf) (l := l)
    have hbn : ∀ y ∈ sl, y.1 ≤ bf := fun y hy => of_decide_eq_true (List.mem_filter.mp (hpl.mem_iff.mp hy)).2
    have hfin2 : (∀ y ∈ l, y.1 ≤ bf) → dn = (l.length : Int) := fun h => by rw [A_leq_all h] at hln; omega
    have hfin : (l.length : Int) ≤ dn → sl.Perm l := fun h => by
      have h2 := A_leq_all (A_leq_full (bf := bf) (l := l) (by omega))
      rw [h2] at hpl
      exact hpl
    refine P_aw_op (L' := [.ref (w.2.2 31), P_z dn, P_z bf, P_z tn, P_un, P_un]) (st' := [P_z tn]) P_i12_7 rfl (show P_aw _ _ _ 8 [.ref (w.2.2 31), P_z dn, P_z bf, P_z tn, P_un, P_un] [P_z tn] _ _ from ?_)
    refine P_aw_op (L' := [.ref (w.2.2 31), P_z dn, P_z bf, P_z tn, P_un, P_un]) (st' := [P_z 14, P_z tn]) P_i12_8 (P_o_bi (by decide)) (show P_aw _ _ _ 10 [.ref (w.2.2 31), P_z dn, P_z bf, P_z tn, P_un, P_un] [P_z 14, P_z tn] _ _ from ?_)
    refine P_aw_icf P_i12_10 ⟨by omega, by omega⟩ ⟨by decide, by decide⟩ (P_ci_gef (by omega)) (show P_aw _ _ _ 13 [.ref (w.2.2 31), P_z dn, P_z bf, P_z tn, P_un, P_un] [] _ _ from ?_)
    refine P_aw_op (L' := [.ref (w.2.2 31), P_z dn, P_z bf, P_z tn, P_un, P_un]) (st' := [P_z dn]) P_i12_13 rfl (show P_aw _ _ _ 14 [.ref (w.2.2 31), P_z dn, P_z bf, P_z tn, P_un, P_un] [P_z dn] _ _ from ?_)
    refine P_aw_op (L' := [.ref (w.2.2 31), P_z dn, P_z bf, P_z tn, P_un, P_un]) (st' := [.ref (w.2.2 31), P_z dn]) P_i12_14 rfl (show P_aw _ _ _ 15 [.ref (w.2.2 31), P_z dn, P_z bf, P_z tn, P_un, P_un] [.ref (w.2.2 31), P_z dn] _ _ from ?_)
    refine P_aw_getv P_i12_15 (hw.2.1 31 (by decide)) (hw.s rfl) rfl rfl (hK.1) (show P_aw _ _ _ 18 [.ref (w.2.2 31), P_z dn, P_z bf, P_z tn, P_un, P_un] [P_z ((l.length : Nat) : Int), P_z dn] _ _ from ?_)
    rcases Int.lt_or_le dn ((l.length : Nat) : Int) with hc1 | hc1
    · refine P_aw_icf P_i12_18 ⟨by omega, by omega⟩ ⟨by omega, by omega⟩ (P_ci_gef (by omega)) (show P_aw _ _ _ 21 [.ref (w.2.2 31), P_z dn, P_z bf, P_z tn, P_un, P_un] [] _ _ from ?_)
      refine P_aw_op (L' := [.ref (w.2.2 31), P_z dn, P_z bf, P_z tn, P_un, P_un]) (st' := [.ref (w.2.2 31)]) P_i12_21 rfl (show P_aw _ _ _ 22 [.ref (w.2.2 31), P_z dn, P_z bf, P_z tn, P_un, P_un] [.ref (w.2.2 31)] _ _ from ?_)
      refine P_aw_op (L' := [.ref (w.2.2 31), P_z dn, P_z bf, P_z tn, P_un, P_un]) (st' := [P_z bf, .ref (w.2.2 31)]) P_i12_22 rfl (show P_aw _ _ _ 23 [.ref (w.2.2 31), P_z dn, P_z bf, P_z tn, P_un, P_un] [P_z bf, .ref (w.2.2 31)] _ _ from ?_)
      have hex : ∃ y ∈ l, bf < y.1 := by
        apply Classical.byContradiction
        intro hne
        have := hfin2 (fun y hy => by rcases Int.lt_or_le bf y.1 with q1 | q1; exact absurd ⟨y, hy, q1⟩ hne; exact q1)
        omega
      obtain ⟨k1, k2, k3⟩ := A_sk_spec (bf := bf) l 1000000000
      have k4 : ∃ y ∈ l, y.1 = A_sk bf l 1000000000 ∧ bf < A_sk bf l 1000000000 := by
        rcases k3 with k3 | k3
        · obtain ⟨y, hy, hb⟩ := hex
          have := k2 y hy hb
          have := (hK.2.2.2 y hy).2
          omega
        · exact k3
      obtain ⟨y0, g1, g2, g3⟩ := k4
      have g4 := hK.2.2.2 y0 g1
      refine P_aw_call P_i12_23 rfl rfl (fun _ => rfl) rfl rfl rfl rfl (y2 := 13) (as := [.ref (w.2.2 31), P_z bf]) (r0 := []) (P_inv_v (hw.2.1 31 (by decide)) (hw.s rfl) rfl rfl) (Nat.le_of_ble_eq_true rfl) (by decide) rfl (Nat.le_of_ble_eq_true rfl) (s_sk hw (by omega) hK ?_)
      show P_aw _ _ _ 26 [.ref (w.2.2 31), P_z dn, P_z bf, P_z tn, P_un, P_un] [P_z (A_sk bf l 1000000000)] _ _
      refine P_aw_op (L' := [.ref (w.2.2 31), P_z dn, P_z bf, P_z tn, P_z (A_sk bf l 1000000000), P_un]) (st' := []) P_i12_26 rfl (show P_aw _ _ _ 28 [.ref (w.2.2 31), P_z dn, P_z bf, P_z tn, P_z (A_sk bf l 1000000000), P_un] [] _ _ from ?_)
      refine P_aw_op (L' := [.ref (w.2.2 31), P_z dn, P_z bf, P_z tn, P_z (A_sk bf l 1000000000), P_un]) (st' := [P_z 0]) P_i12_28 rfl (show P_aw _ _ _ 29 [.ref (w.2.2 31), P_z dn, P_z bf, P_z tn, P_z (A_sk bf l 1000000000), P_un] [P_z 0] _ _ from ?_)
      refine P_aw_op (L' := [.ref (w.2.2 31), P_z dn, P_z bf, P_z tn, P_z (A_sk bf l 1000000000), P_z 0]) (st' := []) P_i12_29 rfl (show P_aw _ _ _ 31 [.ref (w.2.2 31), P_z dn, P_un, P_z tn, P_z (A_sk bf l 1000000000), P_z 0] [] _ _ from ?_)
      have hst := A_leq_step g3 k2
      have hpm : (sl ++ A_eq (A_sk bf l 1000000000) l).Perm (A_leq (A_sk bf l 1000000000) l) := (hpl.append_right _).trans hst
      have hfit : sl.length + (A_eq (A_sk bf l 1000000000) l).length ≤ 2744 := by
        have e1 := hpm.length_eq
        have e2 := A_leq_len (bf := A_sk bf l 1000000000) (l := l)
        have e3 := hK.2.1
        rw [List.length_append] at e1
        omega
      refine s_so2 hw (tn := tn) (bf := bf) (by omega) l.length σ [] l sl 0 dn hK rfl rfl rfl hd hS hfit (fun σ2 r1 r2 => ?_)
      refine P_aw_op (L' := [.ref (w.2.2 31), P_z (((sl ++ A_eq (A_sk bf l 1000000000) l).length : Nat) : Int), P_un, P_z tn, P_z (A_sk bf l 1000000000), P_z ((l.length : Nat) : Int)]) (st' := [P_z (A_sk bf l 1000000000)]) P_i12_80 rfl (show P_aw _ _ _ 82 [.ref (w.2.2 31), P_z (((sl ++ A_eq (A_sk bf l 1000000000) l).length : Nat) : Int), P_un, P_z tn, P_z (A_sk bf l 1000000000), P_z ((l.length : Nat) : Int)] [P_z (A_sk bf l 1000000000)] _ _ from ?_)
      refine P_aw_op (L' := [.ref (w.2.2 31), P_z (((sl ++ A_eq (A_sk bf l 1000000000) l).length : Nat) : Int), P_z (A_sk bf l 1000000000), P_z tn, P_z (A_sk bf l 1000000000), P_z ((l.length : Nat) : Int)]) (st' := []) P_i12_82 rfl (show P_aw _ _ _ 83 [.ref (w.2.2 31), P_z (((sl ++ A_eq (A_sk bf l 1000000000) l).length : Nat) : Int), P_z (A_sk bf l 1000000000), P_z tn, P_z (A_sk bf l 1000000000), P_z ((l.length : Nat) : Int)] [] _ _ from ?_)
      refine P_aw_op (L' := [.ref (w.2.2 31), P_z (((sl ++ A_eq (A_sk bf l 1000000000) l).length : Nat) : Int), P_z (A_sk bf l 1000000000), P_z (tn + 1), P_z (A_sk bf l 1000000000), P_z ((l.length : Nat) : Int)]) (st' := []) P_i12_83 (P_o_iinc rfl) (show P_aw _ _ _ 86 [.ref (w.2.2 31), P_z (((sl ++ A_eq (A_sk bf l 1000000000) l).length : Nat) : Int), P_z (A_sk bf l 1000000000), P_z (tn + 1), P_z (A_sk bf l 1000000000), P_z ((l.length : Nat) : Int)] [] _ _ from ?_)
      refine P_aw_goto P_i12_86 (show P_aw _ _ _ 7 [.ref (w.2.2 31), P_z (((sl ++ A_eq (A_sk bf l 1000000000) l).length : Nat) : Int), P_z (A_sk bf l 1000000000), P_z (tn + 1), P_un, P_un] [] _ _ from ?_)
      exact ih σ2 (sl ++ A_eq (A_sk bf l 1000000000) l) (A_sk bf l 1000000000) (tn + 1) _ (A_KF_cg (r1 31 14 (by omega)) (fun b => r1 40 b (by omega)) (fun b => r1 37 b (by omega)) hK) (by omega) (by omega) rfl r2 hpm (A_inc2_app hi2 hbn g3) (by have := A_gtF_lt g3 (g2 ▸ hF _ g1); omega) (fun σ' sl' h1 h2 h3 h4 => q σ' sl' h1 h2 (fun a b h5 h6 => (h3 a b h5 h6).trans (r1 a b h6)) h4)
    · refine P_aw_ict P_i12_18 ⟨by omega, by omega⟩ ⟨by omega, by omega⟩ (P_ci_get (by omega)) (show P_aw _ _ _ 89 [.ref (w.2.2 31), P_z dn, P_z bf, P_z tn, P_un, P_un] [] _ _ from ?_)
      refine P_aw_op (L' := [.ref (w.2.2 31), P_z dn, P_z bf, P_z tn, P_un, P_un]) (st' := [P_z 0]) P_i12_89 rfl (show P_aw _ _ _ 90 [.ref (w.2.2 31), P_z dn, P_z bf, P_z tn, P_un, P_un] [P_z 0] _ _ from ?_)
      refine P_aw_op (L' := [.ref (w.2.2 31), P_z dn, P_z bf, P_z 0, P_un, P_un]) (st' := []) P_i12_90 rfl (show P_aw _ _ _ 91 [.ref (w.2.2 31), P_un, P_un, P_z 0, P_un, P_un] [] _ _ from ?_)
      have hp := hfin (by omega)
      have hpl := hp.length_eq
      exact s_so3 hw (by rw [hpl]; exact hK.2.1) sl.length σ 0 (by rw [hpl]; exact hK.1) hS (by omega) (by omega) (fun j hj => by omega) (fun σ' h1 h2 => q σ' sl hp hi2 (fun a b h3 h4 => h1 a b h3) h2)

theorem s_so {w : P_Lw} (hw : P_Cw w) {d : Nat} {Q : P_R → P_A → Prop} {σ : P_A} {l : List A_kf} {F : List Int} (hF : ∀ y ∈ l, y.1 ∈ F) (hF14 : F.length ≤ 14) (hK : A_KF σ l) (q : ∀ (σ' : P_A) (sl : List A_kf), sl.Perm l → A_inc2 sl → (∀ a b, a ≠ 37 → a ≠ 41 → σ' a b = σ a b) → (∀ j, j < sl.length → σ' 37 j = (A_at sl j).2) → Q (.inl none) σ') : P_aw w (d + 4) 12 0 [.ref (w.2.2 31), P_un, P_un, P_un, P_un, P_un] [] σ Q := by
  refine P_aw_op (L' := [.ref (w.2.2 31), P_un, P_un, P_un, P_un, P_un]) (st' := [P_z 0]) P_i12_0 rfl (show P_aw _ _ _ 1 [.ref (w.2.2 31), P_un, P_un, P_un, P_un, P_un] [P_z 0] _ _ from ?_)
  refine P_aw_op (L' := [.ref (w.2.2 31), P_z 0, P_un, P_un, P_un, P_un]) (st' := []) P_i12_1 rfl (show P_aw _ _ _ 2 [.ref (w.2.2 31), P_z 0, P_un, P_un, P_un, P_un] [] _ _ from ?_)
  refine P_aw_op (L' := [.ref (w.2.2 31), P_z 0, P_un, P_un, P_un, P_un]) (st' := [P_z (-1000000000)]) P_i12_2 rfl (show P_aw _ _ _ 4 [.ref (w.2.2 31), P_z 0, P_un, P_un, P_un, P_un] [P_z (-1000000000)] _ _ from ?_)
  refine P_aw_op (L' := [.ref (w.2.2 31), P_z 0, P_z (-1000000000), P_un, P_un, P_un]) (st' := []) P_i12_4 rfl (show P_aw _ _ _ 5 [.ref (w.2.2 31), P_z 0, P_z (-1000000000), P_un, P_un, P_un] [] _ _ from ?_)
  refine P_aw_op (L' := [.ref (w.2.2 31), P_z 0, P_z (-1000000000), P_un, P_un, P_un]) (st' := [P_z 0]) P_i12_5 rfl (show P_aw _ _ _ 6 [.ref (w.2.2 31), P_z 0, P_z (-1000000000), P_un, P_un, P_un] [P_z 0] _ _ from ?_)
  refine P_aw_op (L' := [.ref (w.2.2 31), P_z 0, P_z (-1000000000), P_z 0, P_un, P_un]) (st' := []) P_i12_6 rfl (show P_aw _ _ _ 7 [.ref (w.2.2 31), P_z 0, P_z (-1000000000), P_z 0, P_un, P_un] [] _ _ from ?_)
  exact s_so1 hw hF 14 σ [] (-1000000000) 0 0 hK (by omega) (by omega) rfl (fun j hj => absurd hj (by simp)) (by have e : A_leq (-1000000000) l = [] := List.filter_eq_nil_iff.mpr (fun y hy => by have := (hK.2.2.2 y hy).1; rw [decide_eq_true_eq]; omega); rw [e]) List.Pairwise.nil (Nat.le_trans (List.length_filter_le _ _) hF14) q
