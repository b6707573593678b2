/-! the class, written by wip/c1.py: 81.read -/
/-- the tokens from a place on -/
def A_tkn (σ : P_A) (p : Int) (B : List Int) : Prop := ∀ j : Nat, j < B.length → σ 30 (p + (j : Int)).toNat = B.getD j 0
theorem A_tkn_c {σ : P_A} {p x : Int} {B : List Int} (h : A_tkn σ p (x :: B)) : σ 30 p.toNat = x ∧ A_tkn σ (p + 1) B := by
  refine ⟨?_, fun j hj => ?_⟩
  · have := h 0 (by simp)
    rw [show p + ((0 : Nat) : Int) = p by omega] at this
    exact this
  · have := h (j + 1) (by simp; omega)
    rw [show p + ((j + 1 : Nat) : Int) = p + 1 + (j : Int) by omega] at this
    exact this
theorem A_tkn_a {σ : P_A} : ∀ {A : List Int} {p : Int} {B : List Int}, A_tkn σ p (A ++ B) → A_tkn σ p A ∧ A_tkn σ (p + (A.length : Int)) B
  | [], p, B, h => ⟨fun j hj => absurd hj (Nat.not_lt_zero _), by rw [show p + (([] : List Int).length : Int) = p by simp]; exact h⟩
  | x :: A, p, B, h => by
    obtain ⟨h1, h2⟩ := A_tkn_c (show A_tkn σ p (x :: (A ++ B)) from h)
    obtain ⟨h3, h4⟩ := A_tkn_a h2
    refine ⟨fun j hj => ?_, ?_⟩
    · match j with
      | 0 => rw [show p + ((0 : Nat) : Int) = p by omega]; exact h1
      | j + 1 =>
        have := h3 j (by simp at hj; omega)
        rw [show p + ((j + 1 : Nat) : Int) = p + 1 + (j : Int) by omega]
        exact this
    · rw [show p + ((x :: A).length : Int) = p + 1 + (A.length : Int) by simp; omega]
      exact h4
theorem A_tkn_cg {σ σ' : P_A} {p : Int} {B : List Int} (h : ∀ b, σ' 30 b = σ 30 b) (ht : A_tkn σ p B) : A_tkn σ' p B := fun j hj => (h _).trans (ht j hj)
/-- an item's tokens -/
def A_itk (k c : Int) : List Int := if k = 7 then [7] else if k = 8 then [8, c] else [c]
def A_its (ki ci : Int → Int) : Nat → Int → List Int
  | 0, _ => []
  | n + 1, i => A_itk (ki i) (ci i) ++ A_its ki ci n (i + 1)
def A_sts (sn : Int → Int) : Nat → Int → List Int
  | 0, _ => []
  | n + 1, i => (20 + sn i) :: A_sts sn n (i + 1)
def A_cts : List A_cd → Int → List Int
  | [], _ => []
  | x :: r, o => o :: x.1 :: x.2.1 :: x.2.2.1 :: A_cts r 3
/-- what is read so far -/
def A_PS (σ : P_A) (p it : Int) (ki ci : Int → Int) (ns : Int) (tb : Int → Nat) (cs : List A_cd) (gp oi lm : Int) : Prop :=
  σ 29 8 = p ∧ σ 6 4 = it ∧ (∀ j, 0 ≤ j → j < it → σ 7 j.toNat = ki j ∧ σ 8 j.toNat = ci j) ∧ σ 6 5 = ns ∧ (∀ s, 0 ≤ s → s < ns → σ 9 s.toNat = ((tb s : Nat) : Int)) ∧ A_KL σ cs ∧ σ 6 6 = gp ∧ σ 6 7 = oi ∧ σ 6 8 = lm ∧ σ 13 5 = 0 ∧ (∀ j, 0 ≤ j → j < 3 → σ 28 j.toNat = j) ∧ σ 29 6 = 0 ∧ σ 29 7 = -1
/-- what reading leaves alone -/
def A_rfr (σ σ' : P_A) : Prop := ∀ a b, ¬ (6 ≤ a ∧ a ≤ 9) → ¬ (a = 29 ∧ 5 ≤ b) → ¬ (a = 13 ∧ 4 ≤ b) → ¬ (15 ≤ a ∧ a < 29) → σ' a b = σ a b
theorem A_rfr_rf {σ : P_A} : A_rfr σ σ := fun _ _ _ _ _ _ => rfl
theorem A_rfr_tr {σ σ1 σ2 : P_A} (h : A_rfr σ σ1) (h2 : A_rfr σ1 σ2) : A_rfr σ σ2 := fun a b x y z u => (h2 a b x y z u).trans (h a b x y z u)
theorem A_PS_it {σ σ' : P_A} {p p' it : Int} {ki ci : Int → Int} {ns : Int} {tb : Int → Nat} {cs : List A_cd} {gp oi lm : Int} (hit : 0 ≤ it) (h : ∀ a b, ¬ (a = 29 ∧ b = 8) → ¬ (a = 6 ∧ b = 4) → ¬ (a = 7 ∧ b = it.toNat) → ¬ (a = 8 ∧ b = it.toNat) → σ' a b = σ a b) (h1 : σ' 29 8 = p') (h2 : σ' 6 4 = it + 1) (h3 : σ' 7 it.toNat = ki it) (h4 : σ' 8 it.toNat = ci it) (hP : A_PS σ p it ki ci ns tb cs gp oi lm) : A_PS σ' p' (it + 1) ki ci ns tb cs gp oi lm ∧ A_rfr σ σ' := by
  obtain ⟨a1, a2, a3, a4, a5, a6, a7, a8, a9, a10, a11, a12, a13⟩ := hP
  have e : ∀ a b, ¬ (a = 29 ∧ b = 8) → ¬ (a = 6 ∧ b = 4) → a ≠ 7 → a ≠ 8 → σ' a b = σ a b := fun a b x y z u => h a b x y (by omega) (by omega)
  refine ⟨⟨h1, h2, fun j j0 j1 => ?_, (e _ _ (by omega) (by omega) (by omega) (by omega)).trans a4, fun s s0 s1 => (e _ _ (by omega) (by omega) (by omega) (by omega)).trans (a5 s s0 s1), A_KL_cg (e _ _ (by omega) (by omega) (by omega) (by omega)) (fun a b x y => e a b (by omega) (by omega) (by omega) (by omega)) a6, (e _ _ (by omega) (by omega) (by omega) (by omega)).trans a7, (e _ _ (by omega) (by omega) (by omega) (by omega)).trans a8, (e _ _ (by omega) (by omega) (by omega) (by omega)).trans a9, (e _ _ (by omega) (by omega) (by omega) (by omega)).trans a10, fun j j0 j1 => (e _ _ (by omega) (by omega) (by omega) (by omega)).trans (a11 j j0 j1), (e _ _ (by omega) (by omega) (by omega) (by omega)).trans a12, (e _ _ (by omega) (by omega) (by omega) (by omega)).trans a13⟩, fun a b x y z u => e a b (by omega) (by omega) (by omega) (by omega)⟩
  by_cases ej : j = it
  · rw [ej]; exact ⟨h3, h4⟩
  · rw [h 7 j.toNat (by omega) (by omega) (by omega) (by omega), h 8 j.toNat (by omega) (by omega) (by omega) (by omega)]
    exact a3 j j0 (by omega)
theorem A_PS_st {σ σ' : P_A} {p p' it : Int} {ki ci : Int → Int} {ns : Int} {tb : Int → Nat} {cs : List A_cd} {gp oi lm : Int} (hns : 0 ≤ ns) (h : ∀ a b, ¬ (a = 29 ∧ b = 8) → ¬ (a = 6 ∧ b = 5) → ¬ (a = 9 ∧ b = ns.toNat) → σ' a b = σ a b) (h1 : σ' 29 8 = p') (h2 : σ' 6 5 = ns + 1) (h3 : σ' 9 ns.toNat = ((tb ns : Nat) : Int)) (hP : A_PS σ p it ki ci ns tb cs gp oi lm) : A_PS σ' p' it ki ci (ns + 1) tb cs gp oi lm ∧ A_rfr σ σ' := by
  obtain ⟨a1, a2, a3, a4, a5, a6, a7, a8, a9, a10, a11, a12, a13⟩ := hP
  have e : ∀ a b, ¬ (a = 29 ∧ b = 8) → ¬ (a = 6 ∧ b = 5) → a ≠ 9 → σ' a b = σ a b := fun a b x y z => h a b x y (by omega)
  refine ⟨⟨h1, (e _ _ (by omega) (by omega) (by omega)).trans a2, fun j j0 j1 => by rw [e 7 _ (by omega) (by omega) (by omega), e 8 _ (by omega) (by omega) (by omega)]; exact a3 j j0 j1, h2, fun s s0 s1 => ?_, A_KL_cg (e _ _ (by omega) (by omega) (by omega)) (fun a b x y => e a b (by omega) (by omega) (by omega)) a6, (e _ _ (by omega) (by omega) (by omega)).trans a7, (e _ _ (by omega) (by omega) (by omega)).trans a8, (e _ _ (by omega) (by omega) (by omega)).trans a9, (e _ _ (by omega) (by omega) (by omega)).trans a10, fun j j0 j1 => (e _ _ (by omega) (by omega) (by omega)).trans (a11 j j0 j1), (e _ _ (by omega) (by omega) (by omega)).trans a12, (e _ _ (by omega) (by omega) (by omega)).trans a13⟩, fun a b x y z u => e a b (by omega) (by omega) (by omega)⟩
  by_cases ej : s = ns
  · rw [ej]; exact h3
  · exact (h 9 _ (by omega) (by omega) (by omega)).trans (a5 s s0 (by omega))
theorem A_PS_cd {σ σ' : P_A} {p p' it : Int} {ki ci : Int → Int} {ns : Int} {tb : Int → Nat} {cs cs' : List A_cd} {gp oi lm : Int} (h : ∀ a b, ¬ (a = 29 ∧ b = 8) → ¬ (a = 13 ∧ b = 4) → ¬ (15 ≤ a ∧ a < 27) → σ' a b = σ a b) (h1 : σ' 29 8 = p') (h2 : A_KL σ' cs') (hP : A_PS σ p it ki ci ns tb cs gp oi lm) : A_PS σ' p' it ki ci ns tb cs' gp oi lm ∧ A_rfr σ σ' := by
  obtain ⟨a1, a2, a3, a4, a5, a6, a7, a8, a9, a10, a11, a12, a13⟩ := hP
  exact ⟨⟨h1, (h _ _ (by omega) (by omega) (by omega)).trans a2, fun j j0 j1 => by rw [h 7 _ (by omega) (by omega) (by omega), h 8 _ (by omega) (by omega) (by omega)]; exact a3 j j0 j1, (h _ _ (by omega) (by omega) (by omega)).trans a4, fun s s0 s1 => (h _ _ (by omega) (by omega) (by omega)).trans (a5 s s0 s1), h2, (h _ _ (by omega) (by omega) (by omega)).trans a7, (h _ _ (by omega) (by omega) (by omega)).trans a8, (h _ _ (by omega) (by omega) (by omega)).trans a9, (h _ _ (by omega) (by omega) (by omega)).trans a10, fun j j0 j1 => (h _ _ (by omega) (by omega) (by omega)).trans (a11 j j0 j1), (h _ _ (by omega) (by omega) (by omega)).trans a12, (h _ _ (by omega) (by omega) (by omega)).trans a13⟩, fun a b x y z u => h a b (by omega) (by omega) (by omega)⟩
theorem A_PS_tl {σ σ' : P_A} {p p' it : Int} {ki ci : Int → Int} {ns : Int} {tb : Int → Nat} {cs : List A_cd} {gp oi lm gp' oi' lm' : Int} (h : ∀ a b, ¬ (a = 29 ∧ (b = 8 ∨ b = 9)) → ¬ (a = 6 ∧ 6 ≤ b) → σ' a b = σ a b) (h1 : σ' 29 8 = p') (h2 : σ' 6 6 = gp') (h3 : σ' 6 7 = oi') (h4 : σ' 6 8 = lm') (hP : A_PS σ p it ki ci ns tb cs gp oi lm) : A_PS σ' p' it ki ci ns tb cs gp' oi' lm' ∧ A_rfr σ σ' := by
  obtain ⟨a1, a2, a3, a4, a5, a6, a7, a8, a9, a10, a11, a12, a13⟩ := hP
  exact ⟨⟨h1, (h _ _ (by omega) (by omega)).trans a2, fun j j0 j1 => by rw [h 7 _ (by omega) (by omega), h 8 _ (by omega) (by omega)]; exact a3 j j0 j1, (h _ _ (by omega) (by omega)).trans a4, fun s s0 s1 => (h _ _ (by omega) (by omega)).trans (a5 s s0 s1), A_KL_cg (h _ _ (by omega) (by omega)) (fun a b x y => h a b (by omega) (by omega)) a6, h2, h3, h4, (h _ _ (by omega) (by omega)).trans a10, fun j j0 j1 => (h _ _ (by omega) (by omega)).trans (a11 j j0 j1), (h _ _ (by omega) (by omega)).trans a12, (h _ _ (by omega) (by omega)).trans a13⟩, fun a b x y z u => h a b (by omega) (by omega)⟩
theorem s_ri_c {w : P_Lw} (hw : P_Cw w) {d : Nat} {Q : P_R → P_A → Prop} {σ : P_A} {p ln it : Int} {ki ci : Int → Int} {ns : Int} {tb : Int → Nat} {cs : List A_cd} {gp oi lm : Int} {t u : Int} (hps : A_PS σ p it ki ci ns tb cs gp oi lm) (hln : σ 29 4 = ln) (hp : 0 ≤ p ∧ p < ln ∧ ln ≤ 40) (hit : 0 ≤ it ∧ it ≤ 3) (ht : σ 30 p.toNat = t) (htr : 100 ≤ t ∧ t ≤ 199) (hk : ki it = (-1)) (hc : ci it = t) (q : ∀ σ', (A_PS σ' (p + 1) (it + 1) ki ci ns tb cs gp oi lm) → A_rfr σ σ' → Q (.inl (some (P_z 1))) σ') : P_aw w (d + 6) 101 0 [.ref (w.2.2 29), P_un] [] σ Q := by
  refine P_aw_op (L' := [.ref (w.2.2 29), P_un]) (st' := [.ref (w.2.2 29)]) P_i101_0 rfl (show P_aw _ _ _ 1 [.ref (w.2.2 29), P_un] [.ref (w.2.2 29)] _ _ from ?_)
  refine P_aw_call P_i101_1 rfl rfl (fun _ => rfl) rfl rfl rfl rfl (y2 := 110) (as := [.ref (w.2.2 29)]) (r0 := []) (P_inv_v (hw.2.1 29 (by decide)) (hw.s rfl) rfl rfl) (Nat.le_of_ble_eq_true rfl) (by decide) rfl (Nat.le_of_ble_eq_true rfl) (show P_aw _ _ _ 0 [.ref (w.2.2 29)] [] _ _ from ?_)
  refine P_aw_op (L' := [.ref (w.2.2 29)]) (st' := [.ref (w.2.2 29)]) P_i110_0 rfl (show P_aw _ _ _ 1 [.ref (w.2.2 29)] [.ref (w.2.2 29)] _ _ from ?_)
  refine P_aw_getv P_i110_1 (hw.2.1 29 (by decide)) (hw.s rfl) rfl rfl (hps.1) (show P_aw _ _ _ 4 [.ref (w.2.2 29)] [P_z p] _ _ from ?_)
  refine P_aw_op (L' := [.ref (w.2.2 29)]) (st' := [.ref (w.2.2 29), P_z p]) P_i110_4 rfl (show P_aw _ _ _ 5 [.ref (w.2.2 29)] [.ref (w.2.2 29), P_z p] _ _ from ?_)
  refine P_aw_getv P_i110_5 (hw.2.1 29 (by decide)) (hw.s rfl) rfl rfl (hln) (show P_aw _ _ _ 8 [.ref (w.2.2 29)] [P_z ln, P_z p] _ _ from ?_)
  refine P_aw_icf P_i110_8 ⟨by omega, by omega⟩ ⟨by omega, by omega⟩ (P_ci_gef (by omega)) (show P_aw _ _ _ 11 [.ref (w.2.2 29)] [] _ _ from ?_)
  refine P_aw_op (L' := [.ref (w.2.2 29)]) (st' := [.ref (w.2.2 29)]) P_i110_11 rfl (show P_aw _ _ _ 12 [.ref (w.2.2 29)] [.ref (w.2.2 29)] _ _ from ?_)
  refine P_aw_getR P_i110_12 (hw.2.1 29 (by decide)) (hw.s rfl) rfl rfl (show P_aw _ _ _ 15 [.ref (w.2.2 29)] [.ref (w.2.2 30)] _ _ from ?_)
  refine P_aw_op (L' := [.ref (w.2.2 29)]) (st' := [.ref (w.2.2 29), .ref (w.2.2 30)]) P_i110_15 rfl (show P_aw _ _ _ 16 [.ref (w.2.2 29)] [.ref (w.2.2 29), .ref (w.2.2 30)] _ _ from ?_)
  refine P_aw_getv P_i110_16 (hw.2.1 29 (by decide)) (hw.s rfl) rfl rfl (hps.1) (show P_aw _ _ _ 19 [.ref (w.2.2 29)] [P_z p, .ref (w.2.2 30)] _ _ from ?_)
  refine P_aw_call P_i110_19 rfl rfl (fun _ => rfl) rfl rfl rfl rfl (y2 := 178) (as := [.ref (w.2.2 30), P_z p]) (r0 := []) (fun _ _ => rfl) (Nat.le_of_ble_eq_true rfl) (by decide) rfl (Nat.le_of_ble_eq_true rfl) (show P_aw _ _ _ 0 [.ref (w.2.2 30), P_z p] [] _ _ from ?_)
  refine P_aw_op (L' := [.ref (w.2.2 30), P_z p]) (st' := [P_z p]) P_i178_0 rfl (show P_aw _ _ _ 1 [.ref (w.2.2 30), P_z p] [P_z p] _ _ from ?_)
  refine P_aw_izf P_i178_1 ⟨by omega, by omega⟩ (P_ci_ltf (by omega)) (show P_aw _ _ _ 4 [.ref (w.2.2 30), P_z p] [] _ _ from ?_)
  refine P_aw_op (L' := [.ref (w.2.2 30), P_z p]) (st' := [P_z p]) P_i178_4 rfl (show P_aw _ _ _ 5 [.ref (w.2.2 30), P_z p] [P_z p] _ _ from ?_)
  refine P_aw_op (L' := [.ref (w.2.2 30), P_z p]) (st' := [.ref (w.2.2 30), P_z p]) P_i178_5 rfl (show P_aw _ _ _ 6 [.ref (w.2.2 30), P_z p] [.ref (w.2.2 30), P_z p] _ _ from ?_)
  refine P_aw_alen P_i178_6 (hw.2.1 30 (by decide)) (hw.s rfl) (show P_aw _ _ _ 7 [.ref (w.2.2 30), P_z p] [P_z 40, P_z p] _ _ from ?_)
  refine P_aw_icf P_i178_7 ⟨by omega, by omega⟩ ⟨by decide, by decide⟩ (P_ci_gef (by omega)) (show P_aw _ _ _ 10 [.ref (w.2.2 30), P_z p] [] _ _ from ?_)
  refine P_aw_op (L' := [.ref (w.2.2 30), P_z p]) (st' := [.ref (w.2.2 30)]) P_i178_10 rfl (show P_aw _ _ _ 11 [.ref (w.2.2 30), P_z p] [.ref (w.2.2 30)] _ _ from ?_)
  refine P_aw_op (L' := [.ref (w.2.2 30), P_z p]) (st' := [P_z p, .ref (w.2.2 30)]) P_i178_11 rfl (show P_aw _ _ _ 12 [.ref (w.2.2 30), P_z p] [P_z p, .ref (w.2.2 30)] _ _ from ?_)
  refine P_aw_aldv P_i178_12 (hw.2.1 30 (by decide)) (hw.s rfl) (by omega) (by omega) (by decide) (ht) (show P_aw _ _ _ 13 [.ref (w.2.2 30), P_z p] [P_z t] _ _ from ?_)
  refine P_aw_goto P_i178_13 (show P_aw _ _ _ 17 [.ref (w.2.2 30), P_z p] [P_z t] _ _ from ?_)
  refine P_aw_end P_i178_17 rfl rfl (fun _ => rfl) rfl ?_
  show P_aw _ _ _ 22 [.ref (w.2.2 29)] [P_z t] _ _
  refine P_aw_goto P_i110_22 (show P_aw _ _ _ 26 [.ref (w.2.2 29)] [P_z t] _ _ from ?_)
  refine P_aw_end P_i110_26 rfl rfl (fun _ => rfl) rfl ?_
  show P_aw _ _ _ 4 [.ref (w.2.2 29), P_un] [P_z t] _ _
  refine P_aw_op (L' := [.ref (w.2.2 29), P_z t]) (st' := []) P_i101_4 rfl (show P_aw _ _ _ 5 [.ref (w.2.2 29), P_z t] [] _ _ from ?_)
  refine P_aw_op (L' := [.ref (w.2.2 29), P_z t]) (st' := [.ref (w.2.2 29)]) P_i101_5 rfl (show P_aw _ _ _ 6 [.ref (w.2.2 29), P_z t] [.ref (w.2.2 29)] _ _ from ?_)
  refine P_aw_op (L' := [.ref (w.2.2 29), P_z t]) (st' := [P_z t, .ref (w.2.2 29)]) P_i101_6 rfl (show P_aw _ _ _ 7 [.ref (w.2.2 29), P_z t] [P_z t, .ref (w.2.2 29)] _ _ from ?_)
  refine P_aw_call P_i101_7 rfl rfl (fun _ => rfl) rfl rfl rfl rfl (y2 := 111) (as := [.ref (w.2.2 29), P_z t]) (r0 := []) (P_inv_v (hw.2.1 29 (by decide)) (hw.s rfl) rfl rfl) (Nat.le_of_ble_eq_true rfl) (by decide) rfl (Nat.le_of_ble_eq_true rfl) (show P_aw _ _ _ 0 [.ref (w.2.2 29), P_z t] [] _ _ from ?_)
  refine P_aw_op (L' := [.ref (w.2.2 29), P_z t]) (st' := [P_z t]) P_i111_0 rfl (show P_aw _ _ _ 1 [.ref (w.2.2 29), P_z t] [P_z t] _ _ from ?_)
  refine P_aw_op (L' := [.ref (w.2.2 29), P_z t]) (st' := [P_z 7, P_z t]) P_i111_1 (P_o_bi (by decide)) (show P_aw _ _ _ 3 [.ref (w.2.2 29), P_z t] [P_z 7, P_z t] _ _ from ?_)
  refine P_aw_icf P_i111_3 ⟨by omega, by omega⟩ ⟨by decide, by decide⟩ (P_ci_eqf (by omega)) (show P_aw _ _ _ 6 [.ref (w.2.2 29), P_z t] [] _ _ from ?_)
  refine P_aw_op (L' := [.ref (w.2.2 29), P_z t]) (st' := [P_z t]) P_i111_6 rfl (show P_aw _ _ _ 7 [.ref (w.2.2 29), P_z t] [P_z t] _ _ from ?_)
  refine P_aw_op (L' := [.ref (w.2.2 29), P_z t]) (st' := [P_z 8, P_z t]) P_i111_7 (P_o_bi (by decide)) (show P_aw _ _ _ 9 [.ref (w.2.2 29), P_z t] [P_z 8, P_z t] _ _ from ?_)
  refine P_aw_icf P_i111_9 ⟨by omega, by omega⟩ ⟨by decide, by decide⟩ (P_ci_eqf (by omega)) (show P_aw _ _ _ 12 [.ref (w.2.2 29), P_z t] [] _ _ from ?_)
  refine P_aw_op (L' := [.ref (w.2.2 29), P_z t]) (st' := [P_z t]) P_i111_12 rfl (show P_aw _ _ _ 13 [.ref (w.2.2 29), P_z t] [P_z t] _ _ from ?_)
  refine P_aw_call P_i111_13 rfl rfl (fun _ => rfl) rfl rfl rfl rfl (y2 := 174) (as := [P_z t]) (r0 := []) (fun _ _ => rfl) (Nat.le_of_ble_eq_true rfl) (by decide) rfl (Nat.le_of_ble_eq_true rfl) (show P_aw _ _ _ 0 [P_z t] [] _ _ from ?_)
  refine P_aw_op (L' := [P_z t]) (st' := [P_z t]) P_i174_0 rfl (show P_aw _ _ _ 1 [P_z t] [P_z t] _ _ from ?_)
  refine P_aw_op (L' := [P_z t]) (st' := [P_z 100, P_z t]) P_i174_1 (P_o_bi (by decide)) (show P_aw _ _ _ 3 [P_z t] [P_z 100, P_z t] _ _ from ?_)
  refine P_aw_icf P_i174_3 ⟨by omega, by omega⟩ ⟨by decide, by decide⟩ (P_ci_ltf (by omega)) (show P_aw _ _ _ 6 [P_z t] [] _ _ from ?_)
  refine P_aw_op (L' := [P_z t]) (st' := [P_z t]) P_i174_6 rfl (show P_aw _ _ _ 7 [P_z t] [P_z t] _ _ from ?_)
  refine P_aw_op (L' := [P_z t]) (st' := [P_z 199, P_z t]) P_i174_7 (P_o_si (by decide)) (show P_aw _ _ _ 10 [P_z t] [P_z 199, P_z t] _ _ from ?_)
  refine P_aw_icf P_i174_10 ⟨by omega, by omega⟩ ⟨by decide, by decide⟩ (P_ci_gtf (by omega)) (show P_aw _ _ _ 13 [P_z t] [] _ _ from ?_)
  refine P_aw_op (L' := [P_z t]) (st' := [P_z 1]) P_i174_13 rfl (show P_aw _ _ _ 14 [P_z t] [P_z 1] _ _ from ?_)
  refine P_aw_goto P_i174_14 (show P_aw _ _ _ 18 [P_z t] [P_z 1] _ _ from ?_)
  refine P_aw_end P_i174_18 rfl rfl (fun _ => rfl) rfl ?_
  show P_aw _ _ _ 16 [.ref (w.2.2 29), P_z t] [P_z 1] _ _
  refine P_aw_izf P_i111_16 ⟨by decide, by decide⟩ (P_ci_eqf (by omega)) (show P_aw _ _ _ 19 [.ref (w.2.2 29), P_z t] [] _ _ from ?_)
  refine P_aw_op (L' := [.ref (w.2.2 29), P_z t]) (st' := [P_z 1]) P_i111_19 rfl (show P_aw _ _ _ 20 [.ref (w.2.2 29), P_z t] [P_z 1] _ _ from ?_)
  refine P_aw_goto P_i111_20 (show P_aw _ _ _ 24 [.ref (w.2.2 29), P_z t] [P_z 1] _ _ from ?_)
  refine P_aw_end P_i111_24 rfl rfl (fun _ => rfl) rfl ?_
  show P_aw _ _ _ 10 [.ref (w.2.2 29), P_z t] [P_z 1] _ _
  refine P_aw_izt P_i101_10 ⟨by decide, by decide⟩ (P_ci_net (by omega)) (show P_aw _ _ _ 23 [.ref (w.2.2 29), P_z t] [] _ _ from ?_)
  refine P_aw_op (L' := [.ref (w.2.2 29), P_z t]) (st' := [.ref (w.2.2 29)]) P_i101_23 rfl (show P_aw _ _ _ 24 [.ref (w.2.2 29), P_z t] [.ref (w.2.2 29)] _ _ from ?_)
  refine P_aw_op (L' := [.ref (w.2.2 29), P_z t]) (st' := [.ref (w.2.2 29), .ref (w.2.2 29)]) P_i101_24 rfl (show P_aw _ _ _ 25 [.ref (w.2.2 29), P_z t] [.ref (w.2.2 29), .ref (w.2.2 29)] _ _ from ?_)
  refine P_aw_getv P_i101_25 (hw.2.1 29 (by decide)) (hw.s rfl) rfl rfl (hps.1) (show P_aw _ _ _ 28 [.ref (w.2.2 29), P_z t] [P_z p, .ref (w.2.2 29)] _ _ from ?_)
  refine P_aw_op (L' := [.ref (w.2.2 29), P_z t]) (st' := [P_z 1, P_z p, .ref (w.2.2 29)]) P_i101_28 rfl (show P_aw _ _ _ 29 [.ref (w.2.2 29), P_z t] [P_z 1, P_z p, .ref (w.2.2 29)] _ _ from ?_)
  refine P_aw_op (L' := [.ref (w.2.2 29), P_z t]) (st' := [P_z (p + 1), .ref (w.2.2 29)]) P_i101_29 P_o_iadd (show P_aw _ _ _ 30 [.ref (w.2.2 29), P_z t] [P_z (p + 1), .ref (w.2.2 29)] _ _ from ?_)
  refine P_aw_put P_i101_30 (hw.2.1 29 (by decide)) (hw.s rfl) rfl rfl rfl (show P_aw _ _ _ 33 [.ref (w.2.2 29), P_z t] [] _ _ from ?_)
  refine P_aw_op (L' := [.ref (w.2.2 29), P_z t]) (st' := [P_z t]) P_i101_33 rfl (show P_aw _ _ _ 34 [.ref (w.2.2 29), P_z t] [P_z t] _ _ from ?_)
  refine P_aw_op (L' := [.ref (w.2.2 29), P_z t]) (st' := [P_z 7, P_z t]) P_i101_34 (P_o_bi (by decide)) (show P_aw _ _ _ 36 [.ref (w.2.2 29), P_z t] [P_z 7, P_z t] _ _ from ?_)
  refine P_aw_ict P_i101_36 ⟨by omega, by omega⟩ ⟨by decide, by decide⟩ (P_ci_net (by omega)) (show P_aw _ _ _ 52 [.ref (w.2.2 29), P_z t] [] _ _ from ?_)
  refine P_aw_op (L' := [.ref (w.2.2 29), P_z t]) (st' := [P_z t]) P_i101_52 rfl (show P_aw _ _ _ 53 [.ref (w.2.2 29), P_z t] [P_z t] _ _ from ?_)
  refine P_aw_op (L' := [.ref (w.2.2 29), P_z t]) (st' := [P_z 8, P_z t]) P_i101_53 (P_o_bi (by decide)) (show P_aw _ _ _ 55 [.ref (w.2.2 29), P_z t] [P_z 8, P_z t] _ _ from ?_)
  refine P_aw_icf P_i101_55 ⟨by omega, by omega⟩ ⟨by decide, by decide⟩ (P_ci_eqf (by omega)) (show P_aw _ _ _ 58 [.ref (w.2.2 29), P_z t] [] _ _ from ?_)
  refine P_aw_op (L' := [.ref (w.2.2 29), P_z t]) (st' := [.ref (w.2.2 29)]) P_i101_58 rfl (show P_aw _ _ _ 59 [.ref (w.2.2 29), P_z t] [.ref (w.2.2 29)] _ _ from ?_)
  refine P_aw_getR P_i101_59 (hw.2.1 29 (by decide)) (hw.s rfl) rfl rfl (show P_aw _ _ _ 62 [.ref (w.2.2 29), P_z t] [.ref (w.2.2 6)] _ _ from ?_)
  refine P_aw_op (L' := [.ref (w.2.2 29), P_z t]) (st' := [P_z (-1), .ref (w.2.2 6)]) P_i101_62 rfl (show P_aw _ _ _ 63 [.ref (w.2.2 29), P_z t] [P_z (-1), .ref (w.2.2 6)] _ _ from ?_)
  refine P_aw_op (L' := [.ref (w.2.2 29), P_z t]) (st' := [P_z t, P_z (-1), .ref (w.2.2 6)]) P_i101_63 rfl (show P_aw _ _ _ 64 [.ref (w.2.2 29), P_z t] [P_z t, P_z (-1), .ref (w.2.2 6)] _ _ from ?_)
  refine P_aw_call P_i101_64 rfl rfl (fun _ => rfl) rfl rfl rfl rfl (y2 := 24) (as := [.ref (w.2.2 6), P_z (-1), P_z t]) (r0 := []) (P_inv_v (hw.2.1 6 (by decide)) (hw.s rfl) rfl rfl) (Nat.le_of_ble_eq_true rfl) (by decide) rfl (Nat.le_of_ble_eq_true rfl) (show P_aw _ _ _ 0 [.ref (w.2.2 6), P_z (-1), P_z t] [] _ _ from ?_)
  refine P_aw_op (L' := [.ref (w.2.2 6), P_z (-1), P_z t]) (st' := [.ref (w.2.2 6)]) P_i24_0 rfl (show P_aw _ _ _ 1 [.ref (w.2.2 6), P_z (-1), P_z t] [.ref (w.2.2 6)] _ _ from ?_)
  refine P_aw_getR P_i24_1 (hw.2.1 6 (by decide)) (hw.s rfl) rfl rfl (show P_aw _ _ _ 4 [.ref (w.2.2 6), P_z (-1), P_z t] [.ref (w.2.2 7)] _ _ from ?_)
  refine P_aw_op (L' := [.ref (w.2.2 6), P_z (-1), P_z t]) (st' := [.ref (w.2.2 6), .ref (w.2.2 7)]) P_i24_4 rfl (show P_aw _ _ _ 5 [.ref (w.2.2 6), P_z (-1), P_z t] [.ref (w.2.2 6), .ref (w.2.2 7)] _ _ from ?_)
  refine P_aw_getv P_i24_5 (hw.2.1 6 (by decide)) (hw.s rfl) rfl rfl ((P_u2_ne (by omega)).trans (hps.2.1)) (show P_aw _ _ _ 8 [.ref (w.2.2 6), P_z (-1), P_z t] [P_z it, .ref (w.2.2 7)] _ _ from ?_)
  refine P_aw_op (L' := [.ref (w.2.2 6), P_z (-1), P_z t]) (st' := [P_z (-1), P_z it, .ref (w.2.2 7)]) P_i24_8 rfl (show P_aw _ _ _ 9 [.ref (w.2.2 6), P_z (-1), P_z t] [P_z (-1), P_z it, .ref (w.2.2 7)] _ _ from ?_)
  refine P_aw_call P_i24_9 rfl rfl (fun _ => rfl) rfl rfl rfl rfl (y2 := 179) (as := [.ref (w.2.2 7), P_z it, P_z (-1)]) (r0 := []) (fun _ _ => rfl) (Nat.le_of_ble_eq_true rfl) (by decide) rfl (Nat.le_of_ble_eq_true rfl) (show P_aw _ _ _ 0 [.ref (w.2.2 7), P_z it, P_z (-1)] [] _ _ from ?_)
  refine P_aw_op (L' := [.ref (w.2.2 7), P_z it, P_z (-1)]) (st' := [P_z it]) P_i179_0 rfl (show P_aw _ _ _ 1 [.ref (w.2.2 7), P_z it, P_z (-1)] [P_z it] _ _ from ?_)
  refine P_aw_izf P_i179_1 ⟨by omega, by omega⟩ (P_ci_ltf (by omega)) (show P_aw _ _ _ 4 [.ref (w.2.2 7), P_z it, P_z (-1)] [] _ _ from ?_)
  refine P_aw_op (L' := [.ref (w.2.2 7), P_z it, P_z (-1)]) (st' := [P_z it]) P_i179_4 rfl (show P_aw _ _ _ 5 [.ref (w.2.2 7), P_z it, P_z (-1)] [P_z it] _ _ from ?_)
  refine P_aw_op (L' := [.ref (w.2.2 7), P_z it, P_z (-1)]) (st' := [.ref (w.2.2 7), P_z it]) P_i179_5 rfl (show P_aw _ _ _ 6 [.ref (w.2.2 7), P_z it, P_z (-1)] [.ref (w.2.2 7), P_z it] _ _ from ?_)
  refine P_aw_alen P_i179_6 (hw.2.1 7 (by decide)) (hw.s rfl) (show P_aw _ _ _ 7 [.ref (w.2.2 7), P_z it, P_z (-1)] [P_z 4, P_z it] _ _ from ?_)
  refine P_aw_icf P_i179_7 ⟨by omega, by omega⟩ ⟨by decide, by decide⟩ (P_ci_gef (by omega)) (show P_aw _ _ _ 10 [.ref (w.2.2 7), P_z it, P_z (-1)] [] _ _ from ?_)
  refine P_aw_op (L' := [.ref (w.2.2 7), P_z it, P_z (-1)]) (st' := [.ref (w.2.2 7)]) P_i179_10 rfl (show P_aw _ _ _ 11 [.ref (w.2.2 7), P_z it, P_z (-1)] [.ref (w.2.2 7)] _ _ from ?_)
  refine P_aw_op (L' := [.ref (w.2.2 7), P_z it, P_z (-1)]) (st' := [P_z it, .ref (w.2.2 7)]) P_i179_11 rfl (show P_aw _ _ _ 12 [.ref (w.2.2 7), P_z it, P_z (-1)] [P_z it, .ref (w.2.2 7)] _ _ from ?_)
  refine P_aw_op (L' := [.ref (w.2.2 7), P_z it, P_z (-1)]) (st' := [P_z (-1), P_z it, .ref (w.2.2 7)]) P_i179_12 rfl (show P_aw _ _ _ 13 [.ref (w.2.2 7), P_z it, P_z (-1)] [P_z (-1), P_z it, .ref (w.2.2 7)] _ _ from ?_)
  refine P_aw_ast P_i179_13 (hw.2.1 7 (by decide)) (hw.s rfl) (by omega) (by omega) (by decide) (show P_aw _ _ _ 14 [.ref (w.2.2 7), P_z it, P_z (-1)] [] _ _ from ?_)
  refine P_aw_end P_i179_14 rfl rfl (fun _ => rfl) rfl ?_
  show P_aw _ _ _ 12 [.ref (w.2.2 6), P_z (-1), P_z t] [] _ _
  refine P_aw_op (L' := [.ref (w.2.2 6), P_z (-1), P_z t]) (st' := [.ref (w.2.2 6)]) P_i24_12 rfl (show P_aw _ _ _ 13 [.ref (w.2.2 6), P_z (-1), P_z t] [.ref (w.2.2 6)] _ _ from ?_)
  refine P_aw_getR P_i24_13 (hw.2.1 6 (by decide)) (hw.s rfl) rfl rfl (show P_aw _ _ _ 16 [.ref (w.2.2 6), P_z (-1), P_z t] [.ref (w.2.2 8)] _ _ from ?_)
  refine P_aw_op (L' := [.ref (w.2.2 6), P_z (-1), P_z t]) (st' := [.ref (w.2.2 6), .ref (w.2.2 8)]) P_i24_16 rfl (show P_aw _ _ _ 17 [.ref (w.2.2 6), P_z (-1), P_z t] [.ref (w.2.2 6), .ref (w.2.2 8)] _ _ from ?_)
  refine P_aw_getv P_i24_17 (hw.2.1 6 (by decide)) (hw.s rfl) rfl rfl ((P_u2_ne (by omega)).trans ((P_u2_ne (by omega)).trans (hps.2.1))) (show P_aw _ _ _ 20 [.ref (w.2.2 6), P_z (-1), P_z t] [P_z it, .ref (w.2.2 8)] _ _ from ?_)
  refine P_aw_op (L' := [.ref (w.2.2 6), P_z (-1), P_z t]) (st' := [P_z t, P_z it, .ref (w.2.2 8)]) P_i24_20 rfl (show P_aw _ _ _ 21 [.ref (w.2.2 6), P_z (-1), P_z t] [P_z t, P_z it, .ref (w.2.2 8)] _ _ from ?_)
  refine P_aw_call P_i24_21 rfl rfl (fun _ => rfl) rfl rfl rfl rfl (y2 := 179) (as := [.ref (w.2.2 8), P_z it, P_z t]) (r0 := []) (fun _ _ => rfl) (Nat.le_of_ble_eq_true rfl) (by decide) rfl (Nat.le_of_ble_eq_true rfl) (show P_aw _ _ _ 0 [.ref (w.2.2 8), P_z it, P_z t] [] _ _ from ?_)
  refine P_aw_op (L' := [.ref (w.2.2 8), P_z it, P_z t]) (st' := [P_z it]) P_i179_0 rfl (show P_aw _ _ _ 1 [.ref (w.2.2 8), P_z it, P_z t] [P_z it] _ _ from ?_)
  refine P_aw_izf P_i179_1 ⟨by omega, by omega⟩ (P_ci_ltf (by omega)) (show P_aw _ _ _ 4 [.ref (w.2.2 8), P_z it, P_z t] [] _ _ from ?_)
  refine P_aw_op (L' := [.ref (w.2.2 8), P_z it, P_z t]) (st' := [P_z it]) P_i179_4 rfl (show P_aw _ _ _ 5 [.ref (w.2.2 8), P_z it, P_z t] [P_z it] _ _ from ?_)
  refine P_aw_op (L' := [.ref (w.2.2 8), P_z it, P_z t]) (st' := [.ref (w.2.2 8), P_z it]) P_i179_5 rfl (show P_aw _ _ _ 6 [.ref (w.2.2 8), P_z it, P_z t] [.ref (w.2.2 8), P_z it] _ _ from ?_)
  refine P_aw_alen P_i179_6 (hw.2.1 8 (by decide)) (hw.s rfl) (show P_aw _ _ _ 7 [.ref (w.2.2 8), P_z it, P_z t] [P_z 4, P_z it] _ _ from ?_)
  refine P_aw_icf P_i179_7 ⟨by omega, by omega⟩ ⟨by decide, by decide⟩ (P_ci_gef (by omega)) (show P_aw _ _ _ 10 [.ref (w.2.2 8), P_z it, P_z t] [] _ _ from ?_)
  refine P_aw_op (L' := [.ref (w.2.2 8), P_z it, P_z t]) (st' := [.ref (w.2.2 8)]) P_i179_10 rfl (show P_aw _ _ _ 11 [.ref (w.2.2 8), P_z it, P_z t] [.ref (w.2.2 8)] _ _ from ?_)
  refine P_aw_op (L' := [.ref (w.2.2 8), P_z it, P_z t]) (st' := [P_z it, .ref (w.2.2 8)]) P_i179_11 rfl (show P_aw _ _ _ 12 [.ref (w.2.2 8), P_z it, P_z t] [P_z it, .ref (w.2.2 8)] _ _ from ?_)
  refine P_aw_op (L' := [.ref (w.2.2 8), P_z it, P_z t]) (st' := [P_z t, P_z it, .ref (w.2.2 8)]) P_i179_12 rfl (show P_aw _ _ _ 13 [.ref (w.2.2 8), P_z it, P_z t] [P_z t, P_z it, .ref (w.2.2 8)] _ _ from ?_)
  refine P_aw_ast P_i179_13 (hw.2.1 8 (by decide)) (hw.s rfl) (by omega) (by omega) (by decide) (show P_aw _ _ _ 14 [.ref (w.2.2 8), P_z it, P_z t] [] _ _ from ?_)
  refine P_aw_end P_i179_14 rfl rfl (fun _ => rfl) rfl ?_
  show P_aw _ _ _ 24 [.ref (w.2.2 6), P_z (-1), P_z t] [] _ _
  refine P_aw_op (L' := [.ref (w.2.2 6), P_z (-1), P_z t]) (st' := [.ref (w.2.2 6)]) P_i24_24 rfl (show P_aw _ _ _ 25 [.ref (w.2.2 6), P_z (-1), P_z t] [.ref (w.2.2 6)] _ _ from ?_)
  refine P_aw_op (L' := [.ref (w.2.2 6), P_z (-1), P_z t]) (st' := [.ref (w.2.2 6), .ref (w.2.2 6)]) P_i24_25 rfl (show P_aw _ _ _ 26 [.ref (w.2.2 6), P_z (-1), P_z t] [.ref (w.2.2 6), .ref (w.2.2 6)] _ _ from ?_)
  refine P_aw_getv P_i24_26 (hw.2.1 6 (by decide)) (hw.s rfl) rfl rfl ((P_u2_ne (by omega)).trans ((P_u2_ne (by omega)).trans ((P_u2_ne (by omega)).trans (hps.2.1)))) (show P_aw _ _ _ 29 [.ref (w.2.2 6), P_z (-1), P_z t] [P_z it, .ref (w.2.2 6)] _ _ from ?_)
  refine P_aw_op (L' := [.ref (w.2.2 6), P_z (-1), P_z t]) (st' := [P_z 1, P_z it, .ref (w.2.2 6)]) P_i24_29 rfl (show P_aw _ _ _ 30 [.ref (w.2.2 6), P_z (-1), P_z t] [P_z 1, P_z it, .ref (w.2.2 6)] _ _ from ?_)
  refine P_aw_op (L' := [.ref (w.2.2 6), P_z (-1), P_z t]) (st' := [P_z (it + 1), .ref (w.2.2 6)]) P_i24_30 P_o_iadd (show P_aw _ _ _ 31 [.ref (w.2.2 6), P_z (-1), P_z t] [P_z (it + 1), .ref (w.2.2 6)] _ _ from ?_)
  refine P_aw_put P_i24_31 (hw.2.1 6 (by decide)) (hw.s rfl) rfl rfl rfl (show P_aw _ _ _ 34 [.ref (w.2.2 6), P_z (-1), P_z t] [] _ _ from ?_)
  refine P_aw_end P_i24_34 rfl rfl (fun _ => rfl) rfl ?_
  show P_aw _ _ _ 67 [.ref (w.2.2 29), P_z t] [] _ _
  refine P_aw_goto P_i101_67 (show P_aw _ _ _ 116 [.ref (w.2.2 29), P_z t] [] _ _ from ?_)
  refine P_aw_op (L' := [.ref (w.2.2 29), P_z t]) (st' := [P_z 1]) P_i101_116 rfl (show P_aw _ _ _ 117 [.ref (w.2.2 29), P_z t] [P_z 1] _ _ from ?_)
  refine P_aw_end P_i101_117 rfl rfl (fun _ => rfl) rfl ?_
  obtain ⟨hq1, hq2⟩ := A_PS_it (σ' := (P_u2 (P_u2 (P_u2 (P_u2 σ 29 8 (p + 1)) 7 it.toNat (-1)) 8 it.toNat t) 6 4 (it + 1))) (by omega) (fun a b h1 h2 h3 h4 => (P_u2_ne (by omega)).trans ((P_u2_ne (by omega)).trans ((P_u2_ne (by omega)).trans (P_u2_ne (by omega))))) ((P_u2_ne (by omega)).trans ((P_u2_ne (by omega)).trans ((P_u2_ne (by omega)).trans (P_u2_at)))) (P_u2_at) (by rw [hk]; exact (P_u2_ne (by omega)).trans ((P_u2_ne (by omega)).trans (P_u2_at))) (by rw [hc]; exact (P_u2_ne (by omega)).trans (P_u2_at)) hps; exact q _ hq1 hq2

theorem s_ri_n {w : P_Lw} (hw : P_Cw w) {d : Nat} {Q : P_R → P_A → Prop} {σ : P_A} {p ln it : Int} {ki ci : Int → Int} {ns : Int} {tb : Int → Nat} {cs : List A_cd} {gp oi lm : Int} {t u : Int} (hps : A_PS σ p it ki ci ns tb cs gp oi lm) (hln : σ 29 4 = ln) (hp : 0 ≤ p ∧ p < ln ∧ ln ≤ 40) (hit : 0 ≤ it ∧ it ≤ 3) (ht : σ 30 p.toNat = 7) (hk : ki it = 7) (hc : ci it = (-1)) (q : ∀ σ', (A_PS σ' (p + 1) (it + 1) ki ci ns tb cs gp oi lm) → A_rfr σ σ' → Q (.inl (some (P_z 1))) σ') : P_aw w (d + 6) 101 0 [.ref (w.2.2 29), P_un] [] σ Q := by
  refine P_aw_op (L' := [.ref (w.2.2 29), P_un]) (st' := [.ref (w.2.2 29)]) P_i101_0 rfl (show P_aw _ _ _ 1 [.ref (w.2.2 29), P_un] [.ref (w.2.2 29)] _ _ from ?_)
  refine P_aw_call P_i101_1 rfl rfl (fun _ => rfl) rfl rfl rfl rfl (y2 := 110) (as := [.ref (w.2.2 29)]) (r0 := []) (P_inv_v (hw.2.1 29 (by decide)) (hw.s rfl) rfl rfl) (Nat.le_of_ble_eq_true rfl) (by decide) rfl (Nat.le_of_ble_eq_true rfl) (show P_aw _ _ _ 0 [.ref (w.2.2 29)] [] _ _ from ?_)
  refine P_aw_op (L' := [.ref (w.2.2 29)]) (st' := [.ref (w.2.2 29)]) P_i110_0 rfl (show P_aw _ _ _ 1 [.ref (w.2.2 29)] [.ref (w.2.2 29)] _ _ from ?_)
  refine P_aw_getv P_i110_1 (hw.2.1 29 (by decide)) (hw.s rfl) rfl rfl (hps.1) (show P_aw _ _ _ 4 [.ref (w.2.2 29)] [P_z p] _ _ from ?_)
  refine P_aw_op (L' := [.ref (w.2.2 29)]) (st' := [.ref (w.2.2 29), P_z p]) P_i110_4 rfl (show P_aw _ _ _ 5 [.ref (w.2.2 29)] [.ref (w.2.2 29), P_z p] _ _ from ?_)
  refine P_aw_getv P_i110_5 (hw.2.1 29 (by decide)) (hw.s rfl) rfl rfl (hln) (show P_aw _ _ _ 8 [.ref (w.2.2 29)] [P_z ln, P_z p] _ _ from ?_)
  refine P_aw_icf P_i110_8 ⟨by omega, by omega⟩ ⟨by omega, by omega⟩ (P_ci_gef (by omega)) (show P_aw _ _ _ 11 [.ref (w.2.2 29)] [] _ _ from ?_)
  refine P_aw_op (L' := [.ref (w.2.2 29)]) (st' := [.ref (w.2.2 29)]) P_i110_11 rfl (show P_aw _ _ _ 12 [.ref (w.2.2 29)] [.ref (w.2.2 29)] _ _ from ?_)
  refine P_aw_getR P_i110_12 (hw.2.1 29 (by decide)) (hw.s rfl) rfl rfl (show P_aw _ _ _ 15 [.ref (w.2.2 29)] [.ref (w.2.2 30)] _ _ from ?_)
  refine P_aw_op (L' := [.ref (w.2.2 29)]) (st' := [.ref (w.2.2 29), .ref (w.2.2 30)]) P_i110_15 rfl (show P_aw _ _ _ 16 [.ref (w.2.2 29)] [.ref (w.2.2 29), .ref (w.2.2 30)] _ _ from ?_)
  refine P_aw_getv P_i110_16 (hw.2.1 29 (by decide)) (hw.s rfl) rfl rfl (hps.1) (show P_aw _ _ _ 19 [.ref (w.2.2 29)] [P_z p, .ref (w.2.2 30)] _ _ from ?_)
  refine P_aw_call P_i110_19 rfl rfl (fun _ => rfl) rfl rfl rfl rfl (y2 := 178) (as := [.ref (w.2.2 30), P_z p]) (r0 := []) (fun _ _ => rfl) (Nat.le_of_ble_eq_true rfl) (by decide) rfl (Nat.le_of_ble_eq_true rfl) (show P_aw _ _ _ 0 [.ref (w.2.2 30), P_z p] [] _ _ from ?_)
  refine P_aw_op (L' := [.ref (w.2.2 30), P_z p]) (st' := [P_z p]) P_i178_0 rfl (show P_aw _ _ _ 1 [.ref (w.2.2 30), P_z p] [P_z p] _ _ from ?_)
  refine P_aw_izf P_i178_1 ⟨by omega, by omega⟩ (P_ci_ltf (by omega)) (show P_aw _ _ _ 4 [.ref (w.2.2 30), P_z p] [] _ _ from ?_)
  refine P_aw_op (L' := [.ref (w.2.2 30), P_z p]) (st' := [P_z p]) P_i178_4 rfl (show P_aw _ _ _ 5 [.ref (w.2.2 30), P_z p] [P_z p] _ _ from ?_)
  refine P_aw_op (L' := [.ref (w.2.2 30), P_z p]) (st' := [.ref (w.2.2 30), P_z p]) P_i178_5 rfl (show P_aw _ _ _ 6 [.ref (w.2.2 30), P_z p] [.ref (w.2.2 30), P_z p] _ _ from ?_)
  refine P_aw_alen P_i178_6 (hw.2.1 30 (by decide)) (hw.s rfl) (show P_aw _ _ _ 7 [.ref (w.2.2 30), P_z p] [P_z 40, P_z p] _ _ from ?_)
  refine P_aw_icf P_i178_7 ⟨by omega, by omega⟩ ⟨by decide, by decide⟩ (P_ci_gef (by omega)) (show P_aw _ _ _ 10 [.ref (w.2.2 30), P_z p] [] _ _ from ?_)
  refine P_aw_op (L' := [.ref (w.2.2 30), P_z p]) (st' := [.ref (w.2.2 30)]) P_i178_10 rfl (show P_aw _ _ _ 11 [.ref (w.2.2 30), P_z p] [.ref (w.2.2 30)] _ _ from ?_)
  refine P_aw_op (L' := [.ref (w.2.2 30), P_z p]) (st' := [P_z p, .ref (w.2.2 30)]) P_i178_11 rfl (show P_aw _ _ _ 12 [.ref (w.2.2 30), P_z p] [P_z p, .ref (w.2.2 30)] _ _ from ?_)
  refine P_aw_aldv P_i178_12 (hw.2.1 30 (by decide)) (hw.s rfl) (by omega) (by omega) (by decide) (ht) (show P_aw _ _ _ 13 [.ref (w.2.2 30), P_z p] [P_z 7] _ _ from ?_)
  refine P_aw_goto P_i178_13 (show P_aw _ _ _ 17 [.ref (w.2.2 30), P_z p] [P_z 7] _ _ from ?_)
  refine P_aw_end P_i178_17 rfl rfl (fun _ => rfl) rfl ?_
  show P_aw _ _ _ 22 [.ref (w.2.2 29)] [P_z 7] _ _
  refine P_aw_goto P_i110_22 (show P_aw _ _ _ 26 [.ref (w.2.2 29)] [P_z 7] _ _ from ?_)
  refine P_aw_end P_i110_26 rfl rfl (fun _ => rfl) rfl ?_
  show P_aw _ _ _ 4 [.ref (w.2.2 29), P_un] [P_z 7] _ _
  refine P_aw_op (L' := [.ref (w.2.2 29), P_z 7]) (st' := []) P_i101_4 rfl (show P_aw _ _ _ 5 [.ref (w.2.2 29), P_z 7] [] _ _ from ?_)
  refine P_aw_op (L' := [.ref (w.2.2 29), P_z 7]) (st' := [.ref (w.2.2 29)]) P_i101_5 rfl (show P_aw _ _ _ 6 [.ref (w.2.2 29), P_z 7] [.ref (w.2.2 29)] _ _ from ?_)
  refine P_aw_op (L' := [.ref (w.2.2 29), P_z 7]) (st' := [P_z 7, .ref (w.2.2 29)]) P_i101_6 rfl (show P_aw _ _ _ 7 [.ref (w.2.2 29), P_z 7] [P_z 7, .ref (w.2.2 29)] _ _ from ?_)
  refine P_aw_call P_i101_7 rfl rfl (fun _ => rfl) rfl rfl rfl rfl (y2 := 111) (as := [.ref (w.2.2 29), P_z 7]) (r0 := []) (P_inv_v (hw.2.1 29 (by decide)) (hw.s rfl) rfl rfl) (Nat.le_of_ble_eq_true rfl) (by decide) rfl (Nat.le_of_ble_eq_true rfl) (show P_aw _ _ _ 0 [.ref (w.2.2 29), P_z 7] [] _ _ from ?_)
  refine P_aw_op (L' := [.ref (w.2.2 29), P_z 7]) (st' := [P_z 7]) P_i111_0 rfl (show P_aw _ _ _ 1 [.ref (w.2.2 29), P_z 7] [P_z 7] _ _ from ?_)
  refine P_aw_op (L' := [.ref (w.2.2 29), P_z 7]) (st' := [P_z 7, P_z 7]) P_i111_1 (P_o_bi (by decide)) (show P_aw _ _ _ 3 [.ref (w.2.2 29), P_z 7] [P_z 7, P_z 7] _ _ from ?_)
  refine P_aw_ict P_i111_3 ⟨by decide, by decide⟩ ⟨by decide, by decide⟩ (P_ci_eqt (by omega)) (show P_aw _ _ _ 19 [.ref (w.2.2 29), P_z 7] [] _ _ from ?_)
  refine P_aw_op (L' := [.ref (w.2.2 29), P_z 7]) (st' := [P_z 1]) P_i111_19 rfl (show P_aw _ _ _ 20 [.ref (w.2.2 29), P_z 7] [P_z 1] _ _ from ?_)
  refine P_aw_goto P_i111_20 (show P_aw _ _ _ 24 [.ref (w.2.2 29), P_z 7] [P_z 1] _ _ from ?_)
  refine P_aw_end P_i111_24 rfl rfl (fun _ => rfl) rfl ?_
  show P_aw _ _ _ 10 [.ref (w.2.2 29), P_z 7] [P_z 1] _ _
  refine P_aw_izt P_i101_10 ⟨by decide, by decide⟩ (P_ci_net (by omega)) (show P_aw _ _ _ 23 [.ref (w.2.2 29), P_z 7] [] _ _ from ?_)
  refine P_aw_op (L' := [.ref (w.2.2 29), P_z 7]) (st' := [.ref (w.2.2 29)]) P_i101_23 rfl (show P_aw _ _ _ 24 [.ref (w.2.2 29), P_z 7] [.ref (w.2.2 29)] _ _ from ?_)
  refine P_aw_op (L' := [.ref (w.2.2 29), P_z 7]) (st' := [.ref (w.2.2 29), .ref (w.2.2 29)]) P_i101_24 rfl (show P_aw _ _ _ 25 [.ref (w.2.2 29), P_z 7] [.ref (w.2.2 29), .ref (w.2.2 29)] _ _ from ?_)
  refine P_aw_getv P_i101_25 (hw.2.1 29 (by decide)) (hw.s rfl) rfl rfl (hps.1) (show P_aw _ _ _ 28 [.ref (w.2.2 29), P_z 7] [P_z p, .ref (w.2.2 29)] _ _ from ?_)
  refine P_aw_op (L' := [.ref (w.2.2 29), P_z 7]) (st' := [P_z 1, P_z p, .ref (w.2.2 29)]) P_i101_28 rfl (show P_aw _ _ _ 29 [.ref (w.2.2 29), P_z 7] [P_z 1, P_z p, .ref (w.2.2 29)] _ _ from ?_)
  refine P_aw_op (L' := [.ref (w.2.2 29), P_z 7]) (st' := [P_z (p + 1), .ref (w.2.2 29)]) P_i101_29 P_o_iadd (show P_aw _ _ _ 30 [.ref (w.2.2 29), P_z 7] [P_z (p + 1), .ref (w.2.2 29)] _ _ from ?_)
  refine P_aw_put P_i101_30 (hw.2.1 29 (by decide)) (hw.s rfl) rfl rfl rfl (show P_aw _ _ _ 33 [.ref (w.2.2 29), P_z 7] [] _ _ from ?_)
  refine P_aw_op (L' := [.ref (w.2.2 29), P_z 7]) (st' := [P_z 7]) P_i101_33 rfl (show P_aw _ _ _ 34 [.ref (w.2.2 29), P_z 7] [P_z 7] _ _ from ?_)
  refine P_aw_op (L' := [.ref (w.2.2 29), P_z 7]) (st' := [P_z 7, P_z 7]) P_i101_34 (P_o_bi (by decide)) (show P_aw _ _ _ 36 [.ref (w.2.2 29), P_z 7] [P_z 7, P_z 7] _ _ from ?_)
  refine P_aw_icf P_i101_36 ⟨by decide, by decide⟩ ⟨by decide, by decide⟩ (P_ci_nef (by omega)) (show P_aw _ _ _ 39 [.ref (w.2.2 29), P_z 7] [] _ _ from ?_)
  refine P_aw_op (L' := [.ref (w.2.2 29), P_z 7]) (st' := [.ref (w.2.2 29)]) P_i101_39 rfl (show P_aw _ _ _ 40 [.ref (w.2.2 29), P_z 7] [.ref (w.2.2 29)] _ _ from ?_)
  refine P_aw_getR P_i101_40 (hw.2.1 29 (by decide)) (hw.s rfl) rfl rfl (show P_aw _ _ _ 43 [.ref (w.2.2 29), P_z 7] [.ref (w.2.2 6)] _ _ from ?_)
  refine P_aw_op (L' := [.ref (w.2.2 29), P_z 7]) (st' := [P_z 7, .ref (w.2.2 6)]) P_i101_43 (P_o_bi (by decide)) (show P_aw _ _ _ 45 [.ref (w.2.2 29), P_z 7] [P_z 7, .ref (w.2.2 6)] _ _ from ?_)
  refine P_aw_op (L' := [.ref (w.2.2 29), P_z 7]) (st' := [P_z (-1), P_z 7, .ref (w.2.2 6)]) P_i101_45 rfl (show P_aw _ _ _ 46 [.ref (w.2.2 29), P_z 7] [P_z (-1), P_z 7, .ref (w.2.2 6)] _ _ from ?_)
  refine P_aw_call P_i101_46 rfl rfl (fun _ => rfl) rfl rfl rfl rfl (y2 := 24) (as := [.ref (w.2.2 6), P_z 7, P_z (-1)]) (r0 := []) (P_inv_v (hw.2.1 6 (by decide)) (hw.s rfl) rfl rfl) (Nat.le_of_ble_eq_true rfl) (by decide) rfl (Nat.le_of_ble_eq_true rfl) (show P_aw _ _ _ 0 [.ref (w.2.2 6), P_z 7, P_z (-1)] [] _ _ from ?_)
  refine P_aw_op (L' := [.ref (w.2.2 6), P_z 7, P_z (-1)]) (st' := [.ref (w.2.2 6)]) P_i24_0 rfl (show P_aw _ _ _ 1 [.ref (w.2.2 6), P_z 7, P_z (-1)] [.ref (w.2.2 6)] _ _ from ?_)
  refine P_aw_getR P_i24_1 (hw.2.1 6 (by decide)) (hw.s rfl) rfl rfl (show P_aw _ _ _ 4 [.ref (w.2.2 6), P_z 7, P_z (-1)] [.ref (w.2.2 7)] _ _ from ?_)
  refine P_aw_op (L' := [.ref (w.2.2 6), P_z 7, P_z (-1)]) (st' := [.ref (w.2.2 6), .ref (w.2.2 7)]) P_i24_4 rfl (show P_aw _ _ _ 5 [.ref (w.2.2 6), P_z 7, P_z (-1)] [.ref (w.2.2 6), .ref (w.2.2 7)] _ _ from ?_)
  refine P_aw_getv P_i24_5 (hw.2.1 6 (by decide)) (hw.s rfl) rfl rfl ((P_u2_ne (by omega)).trans (hps.2.1)) (show P_aw _ _ _ 8 [.ref (w.2.2 6), P_z 7, P_z (-1)] [P_z it, .ref (w.2.2 7)] _ _ from ?_)
  refine P_aw_op (L' := [.ref (w.2.2 6), P_z 7, P_z (-1)]) (st' := [P_z 7, P_z it, .ref (w.2.2 7)]) P_i24_8 rfl (show P_aw _ _ _ 9 [.ref (w.2.2 6), P_z 7, P_z (-1)] [P_z 7, P_z it, .ref (w.2.2 7)] _ _ from ?_)
  refine P_aw_call P_i24_9 rfl rfl (fun _ => rfl) rfl rfl rfl rfl (y2 := 179) (as := [.ref (w.2.2 7), P_z it, P_z 7]) (r0 := []) (fun _ _ => rfl) (Nat.le_of_ble_eq_true rfl) (by decide) rfl (Nat.le_of_ble_eq_true rfl) (show P_aw _ _ _ 0 [.ref (w.2.2 7), P_z it, P_z 7] [] _ _ from ?_)
  refine P_aw_op (L' := [.ref (w.2.2 7), P_z it, P_z 7]) (st' := [P_z it]) P_i179_0 rfl (show P_aw _ _ _ 1 [.ref (w.2.2 7), P_z it, P_z 7] [P_z it] _ _ from ?_)
  refine P_aw_izf P_i179_1 ⟨by omega, by omega⟩ (P_ci_ltf (by omega)) (show P_aw _ _ _ 4 [.ref (w.2.2 7), P_z it, P_z 7] [] _ _ from ?_)
  refine P_aw_op (L' := [.ref (w.2.2 7), P_z it, P_z 7]) (st' := [P_z it]) P_i179_4 rfl (show P_aw _ _ _ 5 [.ref (w.2.2 7), P_z it, P_z 7] [P_z it] _ _ from ?_)
  refine P_aw_op (L' := [.ref (w.2.2 7), P_z it, P_z 7]) (st' := [.ref (w.2.2 7), P_z it]) P_i179_5 rfl (show P_aw _ _ _ 6 [.ref (w.2.2 7), P_z it, P_z 7] [.ref (w.2.2 7), P_z it] _ _ from ?_)
  refine P_aw_alen P_i179_6 (hw.2.1 7 (by decide)) (hw.s rfl) (show P_aw _ _ _ 7 [.ref (w.2.2 7), P_z it, P_z 7] [P_z 4, P_z it] _ _ from ?_)
  refine P_aw_icf P_i179_7 ⟨by omega, by omega⟩ ⟨by decide, by decide⟩ (P_ci_gef (by omega)) (show P_aw _ _ _ 10 [.ref (w.2.2 7), P_z it, P_z 7] [] _ _ from ?_)
  refine P_aw_op (L' := [.ref (w.2.2 7), P_z it, P_z 7]) (st' := [.ref (w.2.2 7)]) P_i179_10 rfl (show P_aw _ _ _ 11 [.ref (w.2.2 7), P_z it, P_z 7] [.ref (w.2.2 7)] _ _ from ?_)
  refine P_aw_op (L' := [.ref (w.2.2 7), P_z it, P_z 7]) (st' := [P_z it, .ref (w.2.2 7)]) P_i179_11 rfl (show P_aw _ _ _ 12 [.ref (w.2.2 7), P_z it, P_z 7] [P_z it, .ref (w.2.2 7)] _ _ from ?_)
  refine P_aw_op (L' := [.ref (w.2.2 7), P_z it, P_z 7]) (st' := [P_z 7, P_z it, .ref (w.2.2 7)]) P_i179_12 rfl (show P_aw _ _ _ 13 [.ref (w.2.2 7), P_z it, P_z 7] [P_z 7, P_z it, .ref (w.2.2 7)] _ _ from ?_)
  refine P_aw_ast P_i179_13 (hw.2.1 7 (by decide)) (hw.s rfl) (by omega) (by omega) (by decide) (show P_aw _ _ _ 14 [.ref (w.2.2 7), P_z it, P_z 7] [] _ _ from ?_)
  refine P_aw_end P_i179_14 rfl rfl (fun _ => rfl) rfl ?_
  show P_aw _ _ _ 12 [.ref (w.2.2 6), P_z 7, P_z (-1)] [] _ _
  refine P_aw_op (L' := [.ref (w.2.2 6), P_z 7, P_z (-1)]) (st' := [.ref (w.2.2 6)]) P_i24_12 rfl (show P_aw _ _ _ 13 [.ref (w.2.2 6), P_z 7, P_z (-1)] [.ref (w.2.2 6)] _ _ from ?_)
  refine P_aw_getR P_i24_13 (hw.2.1 6 (by decide)) (hw.s rfl) rfl rfl (show P_aw _ _ _ 16 [.ref (w.2.2 6), P_z 7, P_z (-1)] [.ref (w.2.2 8)] _ _ from ?_)
  refine P_aw_op (L' := [.ref (w.2.2 6), P_z 7, P_z (-1)]) (st' := [.ref (w.2.2 6), .ref (w.2.2 8)]) P_i24_16 rfl (show P_aw _ _ _ 17 [.ref (w.2.2 6), P_z 7, P_z (-1)] [.ref (w.2.2 6), .ref (w.2.2 8)] _ _ from ?_)
  refine P_aw_getv P_i24_17 (hw.2.1 6 (by decide)) (hw.s rfl) rfl rfl ((P_u2_ne (by omega)).trans ((P_u2_ne (by omega)).trans (hps.2.1))) (show P_aw _ _ _ 20 [.ref (w.2.2 6), P_z 7, P_z (-1)] [P_z it, .ref (w.2.2 8)] _ _ from ?_)
  refine P_aw_op (L' := [.ref (w.2.2 6), P_z 7, P_z (-1)]) (st' := [P_z (-1), P_z it, .ref (w.2.2 8)]) P_i24_20 rfl (show P_aw _ _ _ 21 [.ref (w.2.2 6), P_z 7, P_z (-1)] [P_z (-1), P_z it, .ref (w.2.2 8)] _ _ from ?_)
  refine P_aw_call P_i24_21 rfl rfl (fun _ => rfl) rfl rfl rfl rfl (y2 := 179) (as := [.ref (w.2.2 8), P_z it, P_z (-1)]) (r0 := []) (fun _ _ => rfl) (Nat.le_of_ble_eq_true rfl) (by decide) rfl (Nat.le_of_ble_eq_true rfl) (show P_aw _ _ _ 0 [.ref (w.2.2 8), P_z it, P_z (-1)] [] _ _ from ?_)
  refine P_aw_op (L' := [.ref (w.2.2 8), P_z it, P_z (-1)]) (st' := [P_z it]) P_i179_0 rfl (show P_aw _ _ _ 1 [.ref (w.2.2 8), P_z it, P_z (-1)] [P_z it] _ _ from ?_)
  refine P_aw_izf P_i179_1 ⟨by omega, by omega⟩ (P_ci_ltf (by omega)) (show P_aw _ _ _ 4 [.ref (w.2.2 8), P_z it, P_z (-1)] [] _ _ from ?_)
  refine P_aw_op (L' := [.ref (w.2.2 8), P_z it, P_z (-1)]) (st' := [P_z it]) P_i179_4 rfl (show P_aw _ _ _ 5 [.ref (w.2.2 8), P_z it, P_z (-1)] [P_z it] _ _ from ?_)
  refine P_aw_op (L' := [.ref (w.2.2 8), P_z it, P_z (-1)]) (st' := [.ref (w.2.2 8), P_z it]) P_i179_5 rfl (show P_aw _ _ _ 6 [.ref (w.2.2 8), P_z it, P_z (-1)] [.ref (w.2.2 8), P_z it] _ _ from ?_)
  refine P_aw_alen P_i179_6 (hw.2.1 8 (by decide)) (hw.s rfl) (show P_aw _ _ _ 7 [.ref (w.2.2 8), P_z it, P_z (-1)] [P_z 4, P_z it] _ _ from ?_)
  refine P_aw_icf P_i179_7 ⟨by omega, by omega⟩ ⟨by decide, by decide⟩ (P_ci_gef (by omega)) (show P_aw _ _ _ 10 [.ref (w.2.2 8), P_z it, P_z (-1)] [] _ _ from ?_)
  refine P_aw_op (L' := [.ref (w.2.2 8), P_z it, P_z (-1)]) (st' := [.ref (w.2.2 8)]) P_i179_10 rfl (show P_aw _ _ _ 11 [.ref (w.2.2 8), P_z it, P_z (-1)] [.ref (w.2.2 8)] _ _ from ?_)
  refine P_aw_op (L' := [.ref (w.2.2 8), P_z it, P_z (-1)]) (st' := [P_z it, .ref (w.2.2 8)]) P_i179_11 rfl (show P_aw _ _ _ 12 [.ref (w.2.2 8), P_z it, P_z (-1)] [P_z it, .ref (w.2.2 8)] _ _ from ?_)
  refine P_aw_op (L' := [.ref (w.2.2 8), P_z it, P_z (-1)]) (st' := [P_z (-1), P_z it, .ref (w.2.2 8)]) P_i179_12 rfl (show P_aw _ _ _ 13 [.ref (w.2.2 8), P_z it, P_z (-1)] [P_z (-1), P_z it, .ref (w.2.2 8)] _ _ from ?_)
  refine P_aw_ast P_i179_13 (hw.2.1 8 (by decide)) (hw.s rfl) (by omega) (by omega) (by decide) (show P_aw _ _ _ 14 [.ref (w.2.2 8), P_z it, P_z (-1)] [] _ _ from ?_)
  refine P_aw_end P_i179_14 rfl rfl (fun _ => rfl) rfl ?_
  show P_aw _ _ _ 24 [.ref (w.2.2 6), P_z 7, P_z (-1)] [] _ _
  refine P_aw_op (L' := [.ref (w.2.2 6), P_z 7, P_z (-1)]) (st' := [.ref (w.2.2 6)]) P_i24_24 rfl (show P_aw _ _ _ 25 [.ref (w.2.2 6), P_z 7, P_z (-1)] [.ref (w.2.2 6)] _ _ from ?_)
  refine P_aw_op (L' := [.ref (w.2.2 6), P_z 7, P_z (-1)]) (st' := [.ref (w.2.2 6), .ref (w.2.2 6)]) P_i24_25 rfl (show P_aw _ _ _ 26 [.ref (w.2.2 6), P_z 7, P_z (-1)] [.ref (w.2.2 6), .ref (w.2.2 6)] _ _ from ?_)
  refine P_aw_getv P_i24_26 (hw.2.1 6 (by decide)) (hw.s rfl) rfl rfl ((P_u2_ne (by omega)).trans ((P_u2_ne (by omega)).trans ((P_u2_ne (by omega)).trans (hps.2.1)))) (show P_aw _ _ _ 29 [.ref (w.2.2 6), P_z 7, P_z (-1)] [P_z it, .ref (w.2.2 6)] _ _ from ?_)
  refine P_aw_op (L' := [.ref (w.2.2 6), P_z 7, P_z (-1)]) (st' := [P_z 1, P_z it, .ref (w.2.2 6)]) P_i24_29 rfl (show P_aw _ _ _ 30 [.ref (w.2.2 6), P_z 7, P_z (-1)] [P_z 1, P_z it, .ref (w.2.2 6)] _ _ from ?_)
  refine P_aw_op (L' := [.ref (w.2.2 6), P_z 7, P_z (-1)]) (st' := [P_z (it + 1), .ref (w.2.2 6)]) P_i24_30 P_o_iadd (show P_aw _ _ _ 31 [.ref (w.2.2 6), P_z 7, P_z (-1)] [P_z (it + 1), .ref (w.2.2 6)] _ _ from ?_)
  refine P_aw_put P_i24_31 (hw.2.1 6 (by decide)) (hw.s rfl) rfl rfl rfl (show P_aw _ _ _ 34 [.ref (w.2.2 6), P_z 7, P_z (-1)] [] _ _ from ?_)
  refine P_aw_end P_i24_34 rfl rfl (fun _ => rfl) rfl ?_
  show P_aw _ _ _ 49 [.ref (w.2.2 29), P_z 7] [] _ _
  refine P_aw_goto P_i101_49 (show P_aw _ _ _ 116 [.ref (w.2.2 29), P_z 7] [] _ _ from ?_)
  refine P_aw_op (L' := [.ref (w.2.2 29), P_z 7]) (st' := [P_z 1]) P_i101_116 rfl (show P_aw _ _ _ 117 [.ref (w.2.2 29), P_z 7] [P_z 1] _ _ from ?_)
  refine P_aw_end P_i101_117 rfl rfl (fun _ => rfl) rfl ?_
  obtain ⟨hq1, hq2⟩ := A_PS_it (σ' := (P_u2 (P_u2 (P_u2 (P_u2 σ 29 8 (p + 1)) 7 it.toNat 7) 8 it.toNat (-1)) 6 4 (it + 1))) (by omega) (fun a b h1 h2 h3 h4 => (P_u2_ne (by omega)).trans ((P_u2_ne (by omega)).trans ((P_u2_ne (by omega)).trans (P_u2_ne (by omega))))) ((P_u2_ne (by omega)).trans ((P_u2_ne (by omega)).trans ((P_u2_ne (by omega)).trans (P_u2_at)))) (P_u2_at) (by rw [hk]; exact (P_u2_ne (by omega)).trans ((P_u2_ne (by omega)).trans (P_u2_at))) (by rw [hc]; exact (P_u2_ne (by omega)).trans (P_u2_at)) hps; exact q _ hq1 hq2

theorem s_ri_s {w : P_Lw} (hw : P_Cw w) {d : Nat} {Q : P_R → P_A → Prop} {σ : P_A} {p ln it : Int} {ki ci : Int → Int} {ns : Int} {tb : Int → Nat} {cs : List A_cd} {gp oi lm : Int} {t u : Int} (hps : A_PS σ p it ki ci ns tb cs gp oi lm) (hln : σ 29 4 = ln) (hp : 0 ≤ p ∧ p + 1 < ln ∧ ln ≤ 40) (hit : 0 ≤ it ∧ it ≤ 3) (ht : σ 30 p.toNat = 8) (hu : σ 30 (p + 1).toNat = u) (hur : 100 ≤ u ∧ u ≤ 199) (hk : ki it = 8) (hc : ci it = u) (q : ∀ σ', (A_PS σ' (p + 1 + 1) (it + 1) ki ci ns tb cs gp oi lm) → A_rfr σ σ' → Q (.inl (some (P_z 1))) σ') : P_aw w (d + 6) 101 0 [.ref (w.2.2 29), P_un] [] σ Q := by
  refine P_aw_op (L' := [.ref (w.2.2 29), P_un]) (st' := [.ref (w.2.2 29)]) P_i101_0 rfl (show P_aw _ _ _ 1 [.ref (w.2.2 29), P_un] [.ref (w.2.2 29)] _ _ from ?_)
  refine P_aw_call P_i101_1 rfl rfl (fun _ => rfl) rfl rfl rfl rfl (y2 := 110) (as := [.ref (w.2.2 29)]) (r0 := []) (P_inv_v (hw.2.1 29 (by decide)) (hw.s rfl) rfl rfl) (Nat.le_of_ble_eq_true rfl) (by decide) rfl (Nat.le_of_ble_eq_true rfl) (show P_aw _ _ _ 0 [.ref (w.2.2 29)] [] _ _ from ?_)
  refine P_aw_op (L' := [.ref (w.2.2 29)]) (st' := [.ref (w.2.2 29)]) P_i110_0 rfl (show P_aw _ _ _ 1 [.ref (w.2.2 29)] [.ref (w.2.2 29)] _ _ from ?_)
  refine P_aw_getv P_i110_1 (hw.2.1 29 (by decide)) (hw.s rfl) rfl rfl (hps.1) (show P_aw _ _ _ 4 [.ref (w.2.2 29)] [P_z p] _ _ from ?_)
  refine P_aw_op (L' := [.ref (w.2.2 29)]) (st' := [.ref (w.2.2 29), P_z p]) P_i110_4 rfl (show P_aw _ _ _ 5 [.ref (w.2.2 29)] [.ref (w.2.2 29), P_z p] _ _ from ?_)
  refine P_aw_getv P_i110_5 (hw.2.1 29 (by decide)) (hw.s rfl) rfl rfl (hln) (show P_aw _ _ _ 8 [.ref (w.2.2 29)] [P_z ln, P_z p] _ _ from ?_)
  refine P_aw_icf P_i110_8 ⟨by omega, by omega⟩ ⟨by omega, by omega⟩ (P_ci_gef (by omega)) (show P_aw _ _ _ 11 [.ref (w.2.2 29)] [] _ _ from ?_)
  refine P_aw_op (L' := [.ref (w.2.2 29)]) (st' := [.ref (w.2.2 29)]) P_i110_11 rfl (show P_aw _ _ _ 12 [.ref (w.2.2 29)] [.ref (w.2.2 29)] _ _ from ?_)
  refine P_aw_getR P_i110_12 (hw.2.1 29 (by decide)) (hw.s rfl) rfl rfl (show P_aw _ _ _ 15 [.ref (w.2.2 29)] [.ref (w.2.2 30)] _ _ from ?_)
  refine P_aw_op (L' := [.ref (w.2.2 29)]) (st' := [.ref (w.2.2 29), .ref (w.2.2 30)]) P_i110_15 rfl (show P_aw _ _ _ 16 [.ref (w.2.2 29)] [.ref (w.2.2 29), .ref (w.2.2 30)] _ _ from ?_)
  refine P_aw_getv P_i110_16 (hw.2.1 29 (by decide)) (hw.s rfl) rfl rfl (hps.1) (show P_aw _ _ _ 19 [.ref (w.2.2 29)] [P_z p, .ref (w.2.2 30)] _ _ from ?_)
  refine P_aw_call P_i110_19 rfl rfl (fun _ => rfl) rfl rfl rfl rfl (y2 := 178) (as := [.ref (w.2.2 30), P_z p]) (r0 := []) (fun _ _ => rfl) (Nat.le_of_ble_eq_true rfl) (by decide) rfl (Nat.le_of_ble_eq_true rfl) (show P_aw _ _ _ 0 [.ref (w.2.2 30), P_z p] [] _ _ from ?_)
  refine P_aw_op (L' := [.ref (w.2.2 30), P_z p]) (st' := [P_z p]) P_i178_0 rfl (show P_aw _ _ _ 1 [.ref (w.2.2 30), P_z p] [P_z p] _ _ from ?_)
  refine P_aw_izf P_i178_1 ⟨by omega, by omega⟩ (P_ci_ltf (by omega)) (show P_aw _ _ _ 4 [.ref (w.2.2 30), P_z p] [] _ _ from ?_)
  refine P_aw_op (L' := [.ref (w.2.2 30), P_z p]) (st' := [P_z p]) P_i178_4 rfl (show P_aw _ _ _ 5 [.ref (w.2.2 30), P_z p] [P_z p] _ _ from ?_)
  refine P_aw_op (L' := [.ref (w.2.2 30), P_z p]) (st' := [.ref (w.2.2 30), P_z p]) P_i178_5 rfl (show P_aw _ _ _ 6 [.ref (w.2.2 30), P_z p] [.ref (w.2.2 30), P_z p] _ _ from ?_)
  refine P_aw_alen P_i178_6 (hw.2.1 30 (by decide)) (hw.s rfl) (show P_aw _ _ _ 7 [.ref (w.2.2 30), P_z p] [P_z 40, P_z p] _ _ from ?_)
  refine P_aw_icf P_i178_7 ⟨by omega, by omega⟩ ⟨by decide, by decide⟩ (P_ci_gef (by omega)) (show P_aw _ _ _ 10 [.ref (w.2.2 30), P_z p] [] _ _ from ?_)
  refine P_aw_op (L' := [.ref (w.2.2 30), P_z p]) (st' := [.ref (w.2.2 30)]) P_i178_10 rfl (show P_aw _ _ _ 11 [.ref (w.2.2 30), P_z p] [.ref (w.2.2 30)] _ _ from ?_)
  refine P_aw_op (L' := [.ref (w.2.2 30), P_z p]) (st' := [P_z p, .ref (w.2.2 30)]) P_i178_11 rfl (show P_aw _ _ _ 12 [.ref (w.2.2 30), P_z p] [P_z p, .ref (w.2.2 30)] _ _ from ?_)
  refine P_aw_aldv P_i178_12 (hw.2.1 30 (by decide)) (hw.s rfl) (by omega) (by omega) (by decide) (ht) (show P_aw _ _ _ 13 [.ref (w.2.2 30), P_z p] [P_z 8] _ _ from ?_)
  refine P_aw_goto P_i178_13 (show P_aw _ _ _ 17 [.ref (w.2.2 30), P_z p] [P_z 8] _ _ from ?_)
  refine P_aw_end P_i178_17 rfl rfl (fun _ => rfl) rfl ?_
  show P_aw _ _ _ 22 [.ref (w.2.2 29)] [P_z 8] _ _
  refine P_aw_goto P_i110_22 (show P_aw _ _ _ 26 [.ref (w.2.2 29)] [P_z 8] _ _ from ?_)
  refine P_aw_end P_i110_26 rfl rfl (fun _ => rfl) rfl ?_
  show P_aw _ _ _ 4 [.ref (w.2.2 29), P_un] [P_z 8] _ _
  refine P_aw_op (L' := [.ref (w.2.2 29), P_z 8]) (st' := []) P_i101_4 rfl (show P_aw _ _ _ 5 [.ref (w.2.2 29), P_z 8] [] _ _ from ?_)
  refine P_aw_op (L' := [.ref (w.2.2 29), P_z 8]) (st' := [.ref (w.2.2 29)]) P_i101_5 rfl (show P_aw _ _ _ 6 [.ref (w.2.2 29), P_z 8] [.ref (w.2.2 29)] _ _ from ?_)
  refine P_aw_op (L' := [.ref (w.2.2 29), P_z 8]) (st' := [P_z 8, .ref (w.2.2 29)]) P_i101_6 rfl (show P_aw _ _ _ 7 [.ref (w.2.2 29), P_z 8] [P_z 8, .ref (w.2.2 29)] _ _ from ?_)
  refine P_aw_call P_i101_7 rfl rfl (fun _ => rfl) rfl rfl rfl rfl (y2 := 111) (as := [.ref (w.2.2 29), P_z 8]) (r0 := []) (P_inv_v (hw.2.1 29 (by decide)) (hw.s rfl) rfl rfl) (Nat.le_of_ble_eq_true rfl) (by decide) rfl (Nat.le_of_ble_eq_true rfl) (show P_aw _ _ _ 0 [.ref (w.2.2 29), P_z 8] [] _ _ from ?_)
  refine P_aw_op (L' := [.ref (w.2.2 29), P_z 8]) (st' := [P_z 8]) P_i111_0 rfl (show P_aw _ _ _ 1 [.ref (w.2.2 29), P_z 8] [P_z 8] _ _ from ?_)
  refine P_aw_op (L' := [.ref (w.2.2 29), P_z 8]) (st' := [P_z 7, P_z 8]) P_i111_1 (P_o_bi (by decide)) (show P_aw _ _ _ 3 [.ref (w.2.2 29), P_z 8] [P_z 7, P_z 8] _ _ from ?_)
  refine P_aw_icf P_i111_3 ⟨by decide, by decide⟩ ⟨by decide, by decide⟩ (P_ci_eqf (by omega)) (show P_aw _ _ _ 6 [.ref (w.2.2 29), P_z 8] [] _ _ from ?_)
  refine P_aw_op (L' := [.ref (w.2.2 29), P_z 8]) (st' := [P_z 8]) P_i111_6 rfl (show P_aw _ _ _ 7 [.ref (w.2.2 29), P_z 8] [P_z 8] _ _ from ?_)
  refine P_aw_op (L' := [.ref (w.2.2 29), P_z 8]) (st' := [P_z 8, P_z 8]) P_i111_7 (P_o_bi (by decide)) (show P_aw _ _ _ 9 [.ref (w.2.2 29), P_z 8] [P_z 8, P_z 8] _ _ from ?_)
  refine P_aw_ict P_i111_9 ⟨by decide, by decide⟩ ⟨by decide, by decide⟩ (P_ci_eqt (by omega)) (show P_aw _ _ _ 19 [.ref (w.2.2 29), P_z 8] [] _ _ from ?_)
  refine P_aw_op (L' := [.ref (w.2.2 29), P_z 8]) (st' := [P_z 1]) P_i111_19 rfl (show P_aw _ _ _ 20 [.ref (w.2.2 29), P_z 8] [P_z 1] _ _ from ?_)
  refine P_aw_goto P_i111_20 (show P_aw _ _ _ 24 [.ref (w.2.2 29), P_z 8] [P_z 1] _ _ from ?_)
  refine P_aw_end P_i111_24 rfl rfl (fun _ => rfl) rfl ?_
  show P_aw _ _ _ 10 [.ref (w.2.2 29), P_z 8] [P_z 1] _ _
  refine P_aw_izt P_i101_10 ⟨by decide, by decide⟩ (P_ci_net (by omega)) (show P_aw _ _ _ 23 [.ref (w.2.2 29), P_z 8] [] _ _ from ?_)
  refine P_aw_op (L' := [.ref (w.2.2 29), P_z 8]) (st' := [.ref (w.2.2 29)]) P_i101_23 rfl (show P_aw _ _ _ 24 [.ref (w.2.2 29), P_z 8] [.ref (w.2.2 29)] _ _ from ?_)
  refine P_aw_op (L' := [.ref (w.2.2 29), P_z 8]) (st' := [.ref (w.2.2 29), .ref (w.2.2 29)]) P_i101_24 rfl (show P_aw _ _ _ 25 [.ref (w.2.2 29), P_z 8] [.ref (w.2.2 29), .ref (w.2.2 29)] _ _ from ?_)
  refine P_aw_getv P_i101_25 (hw.2.1 29 (by decide)) (hw.s rfl) rfl rfl (hps.1) (show P_aw _ _ _ 28 [.ref (w.2.2 29), P_z 8] [P_z p, .ref (w.2.2 29)] _ _ from ?_)
  refine P_aw_op (L' := [.ref (w.2.2 29), P_z 8]) (st' := [P_z 1, P_z p, .ref (w.2.2 29)]) P_i101_28 rfl (show P_aw _ _ _ 29 [.ref (w.2.2 29), P_z 8] [P_z 1, P_z p, .ref (w.2.2 29)] _ _ from ?_)
  refine P_aw_op (L' := [.ref (w.2.2 29), P_z 8]) (st' := [P_z (p + 1), .ref (w.2.2 29)]) P_i101_29 P_o_iadd (show P_aw _ _ _ 30 [.ref (w.2.2 29), P_z 8] [P_z (p + 1), .ref (w.2.2 29)] _ _ from ?_)
  refine P_aw_put P_i101_30 (hw.2.1 29 (by decide)) (hw.s rfl) rfl rfl rfl (show P_aw _ _ _ 33 [.ref (w.2.2 29), P_z 8] [] _ _ from ?_)
  refine P_aw_op (L' := [.ref (w.2.2 29), P_z 8]) (st' := [P_z 8]) P_i101_33 rfl (show P_aw _ _ _ 34 [.ref (w.2.2 29), P_z 8] [P_z 8] _ _ from ?_)
  refine P_aw_op (L' := [.ref (w.2.2 29), P_z 8]) (st' := [P_z 7, P_z 8]) P_i101_34 (P_o_bi (by decide)) (show P_aw _ _ _ 36 [.ref (w.2.2 29), P_z 8] [P_z 7, P_z 8] _ _ from ?_)
  refine P_aw_ict P_i101_36 ⟨by decide, by decide⟩ ⟨by decide, by decide⟩ (P_ci_net (by omega)) (show P_aw _ _ _ 52 [.ref (w.2.2 29), P_z 8] [] _ _ from ?_)
  refine P_aw_op (L' := [.ref (w.2.2 29), P_z 8]) (st' := [P_z 8]) P_i101_52 rfl (show P_aw _ _ _ 53 [.ref (w.2.2 29), P_z 8] [P_z 8] _ _ from ?_)
  refine P_aw_op (L' := [.ref (w.2.2 29), P_z 8]) (st' := [P_z 8, P_z 8]) P_i101_53 (P_o_bi (by decide)) (show P_aw _ _ _ 55 [.ref (w.2.2 29), P_z 8] [P_z 8, P_z 8] _ _ from ?_)
  refine P_aw_ict P_i101_55 ⟨by decide, by decide⟩ ⟨by decide, by decide⟩ (P_ci_eqt (by omega)) (show P_aw _ _ _ 70 [.ref (w.2.2 29), P_z 8] [] _ _ from ?_)
  refine P_aw_op (L' := [.ref (w.2.2 29), P_z 8]) (st' := [.ref (w.2.2 29)]) P_i101_70 rfl (show P_aw _ _ _ 71 [.ref (w.2.2 29), P_z 8] [.ref (w.2.2 29)] _ _ from ?_)
  refine P_aw_call P_i101_71 rfl rfl (fun _ => rfl) rfl rfl rfl rfl (y2 := 110) (as := [.ref (w.2.2 29)]) (r0 := []) (P_inv_v (hw.2.1 29 (by decide)) (hw.s rfl) rfl rfl) (Nat.le_of_ble_eq_true rfl) (by decide) rfl (Nat.le_of_ble_eq_true rfl) (show P_aw _ _ _ 0 [.ref (w.2.2 29)] [] _ _ from ?_)
  refine P_aw_op (L' := [.ref (w.2.2 29)]) (st' := [.ref (w.2.2 29)]) P_i110_0 rfl (show P_aw _ _ _ 1 [.ref (w.2.2 29)] [.ref (w.2.2 29)] _ _ from ?_)
  refine P_aw_getv P_i110_1 (hw.2.1 29 (by decide)) (hw.s rfl) rfl rfl (P_u2_at) (show P_aw _ _ _ 4 [.ref (w.2.2 29)] [P_z (p + 1)] _ _ from ?_)
  refine P_aw_op (L' := [.ref (w.2.2 29)]) (st' := [.ref (w.2.2 29), P_z (p + 1)]) P_i110_4 rfl (show P_aw _ _ _ 5 [.ref (w.2.2 29)] [.ref (w.2.2 29), P_z (p + 1)] _ _ from ?_)
  refine P_aw_getv P_i110_5 (hw.2.1 29 (by decide)) (hw.s rfl) rfl rfl ((P_u2_ne (by omega)).trans (hln)) (show P_aw _ _ _ 8 [.ref (w.2.2 29)] [P_z ln, P_z (p + 1)] _ _ from ?_)
  refine P_aw_icf P_i110_8 ⟨by omega, by omega⟩ ⟨by omega, by omega⟩ (P_ci_gef (by omega)) (show P_aw _ _ _ 11 [.ref (w.2.2 29)] [] _ _ from ?_)
  refine P_aw_op (L' := [.ref (w.2.2 29)]) (st' := [.ref (w.2.2 29)]) P_i110_11 rfl (show P_aw _ _ _ 12 [.ref (w.2.2 29)] [.ref (w.2.2 29)] _ _ from ?_)
  refine P_aw_getR P_i110_12 (hw.2.1 29 (by decide)) (hw.s rfl) rfl rfl (show P_aw _ _ _ 15 [.ref (w.2.2 29)] [.ref (w.2.2 30)] _ _ from ?_)
  refine P_aw_op (L' := [.ref (w.2.2 29)]) (st' := [.ref (w.2.2 29), .ref (w.2.2 30)]) P_i110_15 rfl (show P_aw _ _ _ 16 [.ref (w.2.2 29)] [.ref (w.2.2 29), .ref (w.2.2 30)] _ _ from ?_)
  refine P_aw_getv P_i110_16 (hw.2.1 29 (by decide)) (hw.s rfl) rfl rfl (P_u2_at) (show P_aw _ _ _ 19 [.ref (w.2.2 29)] [P_z (p + 1), .ref (w.2.2 30)] _ _ from ?_)
  refine P_aw_call P_i110_19 rfl rfl (fun _ => rfl) rfl rfl rfl rfl (y2 := 178) (as := [.ref (w.2.2 30), P_z (p + 1)]) (r0 := []) (fun _ _ => rfl) (Nat.le_of_ble_eq_true rfl) (by decide) rfl (Nat.le_of_ble_eq_true rfl) (show P_aw _ _ _ 0 [.ref (w.2.2 30), P_z (p + 1)] [] _ _ from ?_)
  refine P_aw_op (L' := [.ref (w.2.2 30), P_z (p + 1)]) (st' := [P_z (p + 1)]) P_i178_0 rfl (show P_aw _ _ _ 1 [.ref (w.2.2 30), P_z (p + 1)] [P_z (p + 1)] _ _ from ?_)
  refine P_aw_izf P_i178_1 ⟨by omega, by omega⟩ (P_ci_ltf (by omega)) (show P_aw _ _ _ 4 [.ref (w.2.2 30), P_z (p + 1)] [] _ _ from ?_)
  refine P_aw_op (L' := [.ref (w.2.2 30), P_z (p + 1)]) (st' := [P_z (p + 1)]) P_i178_4 rfl (show P_aw _ _ _ 5 [.ref (w.2.2 30), P_z (p + 1)] [P_z (p + 1)] _ _ from ?_)
  refine P_aw_op (L' := [.ref (w.2.2 30), P_z (p + 1)]) (st' := [.ref (w.2.2 30), P_z (p + 1)]) P_i178_5 rfl (show P_aw _ _ _ 6 [.ref (w.2.2 30), P_z (p + 1)] [.ref (w.2.2 30), P_z (p + 1)] _ _ from ?_)
  refine P_aw_alen P_i178_6 (hw.2.1 30 (by decide)) (hw.s rfl) (show P_aw _ _ _ 7 [.ref (w.2.2 30), P_z (p + 1)] [P_z 40, P_z (p + 1)] _ _ from ?_)
  refine P_aw_icf P_i178_7 ⟨by omega, by omega⟩ ⟨by decide, by decide⟩ (P_ci_gef (by omega)) (show P_aw _ _ _ 10 [.ref (w.2.2 30), P_z (p + 1)] [] _ _ from ?_)
  refine P_aw_op (L' := [.ref (w.2.2 30), P_z (p + 1)]) (st' := [.ref (w.2.2 30)]) P_i178_10 rfl (show P_aw _ _ _ 11 [.ref (w.2.2 30), P_z (p + 1)] [.ref (w.2.2 30)] _ _ from ?_)
  refine P_aw_op (L' := [.ref (w.2.2 30), P_z (p + 1)]) (st' := [P_z (p + 1), .ref (w.2.2 30)]) P_i178_11 rfl (show P_aw _ _ _ 12 [.ref (w.2.2 30), P_z (p + 1)] [P_z (p + 1), .ref (w.2.2 30)] _ _ from ?_)
  refine P_aw_aldv P_i178_12 (hw.2.1 30 (by decide)) (hw.s rfl) (by omega) (by omega) (by decide) ((P_u2_ne (by omega)).trans (hu)) (show P_aw _ _ _ 13 [.ref (w.2.2 30), P_z (p + 1)] [P_z u] _ _ from ?_)
  refine P_aw_goto P_i178_13 (show P_aw _ _ _ 17 [.ref (w.2.2 30), P_z (p + 1)] [P_z u] _ _ from ?_)
  refine P_aw_end P_i178_17 rfl rfl (fun _ => rfl) rfl ?_
  show P_aw _ _ _ 22 [.ref (w.2.2 29)] [P_z u] _ _
  refine P_aw_goto P_i110_22 (show P_aw _ _ _ 26 [.ref (w.2.2 29)] [P_z u] _ _ from ?_)
  refine P_aw_end P_i110_26 rfl rfl (fun _ => rfl) rfl ?_
  show P_aw _ _ _ 74 [.ref (w.2.2 29), P_z 8] [P_z u] _ _
  refine P_aw_call P_i101_74 rfl rfl (fun _ => rfl) rfl rfl rfl rfl (y2 := 174) (as := [P_z u]) (r0 := []) (fun _ _ => rfl) (Nat.le_of_ble_eq_true rfl) (by decide) rfl (Nat.le_of_ble_eq_true rfl) (show P_aw _ _ _ 0 [P_z u] [] _ _ from ?_)
  refine P_aw_op (L' := [P_z u]) (st' := [P_z u]) P_i174_0 rfl (show P_aw _ _ _ 1 [P_z u] [P_z u] _ _ from ?_)
  refine P_aw_op (L' := [P_z u]) (st' := [P_z 100, P_z u]) P_i174_1 (P_o_bi (by decide)) (show P_aw _ _ _ 3 [P_z u] [P_z 100, P_z u] _ _ from ?_)
  refine P_aw_icf P_i174_3 ⟨by omega, by omega⟩ ⟨by decide, by decide⟩ (P_ci_ltf (by omega)) (show P_aw _ _ _ 6 [P_z u] [] _ _ from ?_)
  refine P_aw_op (L' := [P_z u]) (st' := [P_z u]) P_i174_6 rfl (show P_aw _ _ _ 7 [P_z u] [P_z u] _ _ from ?_)
  refine P_aw_op (L' := [P_z u]) (st' := [P_z 199, P_z u]) P_i174_7 (P_o_si (by decide)) (show P_aw _ _ _ 10 [P_z u] [P_z 199, P_z u] _ _ from ?_)
  refine P_aw_icf P_i174_10 ⟨by omega, by omega⟩ ⟨by decide, by decide⟩ (P_ci_gtf (by omega)) (show P_aw _ _ _ 13 [P_z u] [] _ _ from ?_)
  refine P_aw_op (L' := [P_z u]) (st' := [P_z 1]) P_i174_13 rfl (show P_aw _ _ _ 14 [P_z u] [P_z 1] _ _ from ?_)
  refine P_aw_goto P_i174_14 (show P_aw _ _ _ 18 [P_z u] [P_z 1] _ _ from ?_)
  refine P_aw_end P_i174_18 rfl rfl (fun _ => rfl) rfl ?_
  show P_aw _ _ _ 77 [.ref (w.2.2 29), P_z 8] [P_z 1] _ _
  refine P_aw_izf P_i101_77 ⟨by decide, by decide⟩ (P_ci_eqf (by omega)) (show P_aw _ _ _ 80 [.ref (w.2.2 29), P_z 8] [] _ _ from ?_)
  refine P_aw_op (L' := [.ref (w.2.2 29), P_z 8]) (st' := [.ref (w.2.2 29)]) P_i101_80 rfl (show P_aw _ _ _ 81 [.ref (w.2.2 29), P_z 8] [.ref (w.2.2 29)] _ _ from ?_)
  refine P_aw_getR P_i101_81 (hw.2.1 29 (by decide)) (hw.s rfl) rfl rfl (show P_aw _ _ _ 84 [.ref (w.2.2 29), P_z 8] [.ref (w.2.2 6)] _ _ from ?_)
  refine P_aw_op (L' := [.ref (w.2.2 29), P_z 8]) (st' := [P_z 8, .ref (w.2.2 6)]) P_i101_84 (P_o_bi (by decide)) (show P_aw _ _ _ 86 [.ref (w.2.2 29), P_z 8] [P_z 8, .ref (w.2.2 6)] _ _ from ?_)
  refine P_aw_op (L' := [.ref (w.2.2 29), P_z 8]) (st' := [.ref (w.2.2 29), P_z 8, .ref (w.2.2 6)]) P_i101_86 rfl (show P_aw _ _ _ 87 [.ref (w.2.2 29), P_z 8] [.ref (w.2.2 29), P_z 8, .ref (w.2.2 6)] _ _ from ?_)
  refine P_aw_call P_i101_87 rfl rfl (fun _ => rfl) rfl rfl rfl rfl (y2 := 110) (as := [.ref (w.2.2 29)]) (r0 := [P_z 8, .ref (w.2.2 6)]) (P_inv_v (hw.2.1 29 (by decide)) (hw.s rfl) rfl rfl) (Nat.le_of_ble_eq_true rfl) (by decide) rfl (Nat.le_of_ble_eq_true rfl) (show P_aw _ _ _ 0 [.ref (w.2.2 29)] [] _ _ from ?_)
  refine P_aw_op (L' := [.ref (w.2.2 29)]) (st' := [.ref (w.2.2 29)]) P_i110_0 rfl (show P_aw _ _ _ 1 [.ref (w.2.2 29)] [.ref (w.2.2 29)] _ _ from ?_)
  refine P_aw_getv P_i110_1 (hw.2.1 29 (by decide)) (hw.s rfl) rfl rfl (P_u2_at) (show P_aw _ _ _ 4 [.ref (w.2.2 29)] [P_z (p + 1)] _ _ from ?_)
  refine P_aw_op (L' := [.ref (w.2.2 29)]) (st' := [.ref (w.2.2 29), P_z (p + 1)]) P_i110_4 rfl (show P_aw _ _ _ 5 [.ref (w.2.2 29)] [.ref (w.2.2 29), P_z (p + 1)] _ _ from ?_)
  refine P_aw_getv P_i110_5 (hw.2.1 29 (by decide)) (hw.s rfl) rfl rfl ((P_u2_ne (by omega)).trans (hln)) (show P_aw _ _ _ 8 [.ref (w.2.2 29)] [P_z ln, P_z (p + 1)] _ _ from ?_)
  refine P_aw_icf P_i110_8 ⟨by omega, by omega⟩ ⟨by omega, by omega⟩ (P_ci_gef (by omega)) (show P_aw _ _ _ 11 [.ref (w.2.2 29)] [] _ _ from ?_)
  refine P_aw_op (L' := [.ref (w.2.2 29)]) (st' := [.ref (w.2.2 29)]) P_i110_11 rfl (show P_aw _ _ _ 12 [.ref (w.2.2 29)] [.ref (w.2.2 29)] _ _ from ?_)
  refine P_aw_getR P_i110_12 (hw.2.1 29 (by decide)) (hw.s rfl) rfl rfl (show P_aw _ _ _ 15 [.ref (w.2.2 29)] [.ref (w.2.2 30)] _ _ from ?_)
  refine P_aw_op (L' := [.ref (w.2.2 29)]) (st' := [.ref (w.2.2 29), .ref (w.2.2 30)]) P_i110_15 rfl (show P_aw _ _ _ 16 [.ref (w.2.2 29)] [.ref (w.2.2 29), .ref (w.2.2 30)] _ _ from ?_)
  refine P_aw_getv P_i110_16 (hw.2.1 29 (by decide)) (hw.s rfl) rfl rfl (P_u2_at) (show P_aw _ _ _ 19 [.ref (w.2.2 29)] [P_z (p + 1), .ref (w.2.2 30)] _ _ from ?_)
  refine P_aw_call P_i110_19 rfl rfl (fun _ => rfl) rfl rfl rfl rfl (y2 := 178) (as := [.ref (w.2.2 30), P_z (p + 1)]) (r0 := []) (fun _ _ => rfl) (Nat.le_of_ble_eq_true rfl) (by decide) rfl (Nat.le_of_ble_eq_true rfl) (show P_aw _ _ _ 0 [.ref (w.2.2 30), P_z (p + 1)] [] _ _ from ?_)
  refine P_aw_op (L' := [.ref (w.2.2 30), P_z (p + 1)]) (st' := [P_z (p + 1)]) P_i178_0 rfl (show P_aw _ _ _ 1 [.ref (w.2.2 30), P_z (p + 1)] [P_z (p + 1)] _ _ from ?_)
  refine P_aw_izf P_i178_1 ⟨by omega, by omega⟩ (P_ci_ltf (by omega)) (show P_aw _ _ _ 4 [.ref (w.2.2 30), P_z (p + 1)] [] _ _ from ?_)
  refine P_aw_op (L' := [.ref (w.2.2 30), P_z (p + 1)]) (st' := [P_z (p + 1)]) P_i178_4 rfl (show P_aw _ _ _ 5 [.ref (w.2.2 30), P_z (p + 1)] [P_z (p + 1)] _ _ from ?_)
  refine P_aw_op (L' := [.ref (w.2.2 30), P_z (p + 1)]) (st' := [.ref (w.2.2 30), P_z (p + 1)]) P_i178_5 rfl (show P_aw _ _ _ 6 [.ref (w.2.2 30), P_z (p + 1)] [.ref (w.2.2 30), P_z (p + 1)] _ _ from ?_)
  refine P_aw_alen P_i178_6 (hw.2.1 30 (by decide)) (hw.s rfl) (show P_aw _ _ _ 7 [.ref (w.2.2 30), P_z (p + 1)] [P_z 40, P_z (p + 1)] _ _ from ?_)
  refine P_aw_icf P_i178_7 ⟨by omega, by omega⟩ ⟨by decide, by decide⟩ (P_ci_gef (by omega)) (show P_aw _ _ _ 10 [.ref (w.2.2 30), P_z (p + 1)] [] _ _ from ?_)
  refine P_aw_op (L' := [.ref (w.2.2 30), P_z (p + 1)]) (st' := [.ref (w.2.2 30)]) P_i178_10 rfl (show P_aw _ _ _ 11 [.ref (w.2.2 30), P_z (p + 1)] [.ref (w.2.2 30)] _ _ from ?_)
  refine P_aw_op (L' := [.ref (w.2.2 30), P_z (p + 1)]) (st' := [P_z (p + 1), .ref (w.2.2 30)]) P_i178_11 rfl (show P_aw _ _ _ 12 [.ref (w.2.2 30), P_z (p + 1)] [P_z (p + 1), .ref (w.2.2 30)] _ _ from ?_)
  refine P_aw_aldv P_i178_12 (hw.2.1 30 (by decide)) (hw.s rfl) (by omega) (by omega) (by decide) ((P_u2_ne (by omega)).trans (hu)) (show P_aw _ _ _ 13 [.ref (w.2.2 30), P_z (p + 1)] [P_z u] _ _ from ?_)
  refine P_aw_goto P_i178_13 (show P_aw _ _ _ 17 [.ref (w.2.2 30), P_z (p + 1)] [P_z u] _ _ from ?_)
  refine P_aw_end P_i178_17 rfl rfl (fun _ => rfl) rfl ?_
  show P_aw _ _ _ 22 [.ref (w.2.2 29)] [P_z u] _ _
  refine P_aw_goto P_i110_22 (show P_aw _ _ _ 26 [.ref (w.2.2 29)] [P_z u] _ _ from ?_)
  refine P_aw_end P_i110_26 rfl rfl (fun _ => rfl) rfl ?_
  show P_aw _ _ _ 90 [.ref (w.2.2 29), P_z 8] [P_z u, P_z 8, .ref (w.2.2 6)] _ _
  refine P_aw_call P_i101_90 rfl rfl (fun _ => rfl) rfl rfl rfl rfl (y2 := 24) (as := [.ref (w.2.2 6), P_z 8, P_z u]) (r0 := []) (P_inv_v (hw.2.1 6 (by decide)) (hw.s rfl) rfl rfl) (Nat.le_of_ble_eq_true rfl) (by decide) rfl (Nat.le_of_ble_eq_true rfl) (show P_aw _ _ _ 0 [.ref (w.2.2 6), P_z 8, P_z u] [] _ _ from ?_)
  refine P_aw_op (L' := [.ref (w.2.2 6), P_z 8, P_z u]) (st' := [.ref (w.2.2 6)]) P_i24_0 rfl (show P_aw _ _ _ 1 [.ref (w.2.2 6), P_z 8, P_z u] [.ref (w.2.2 6)] _ _ from ?_)
  refine P_aw_getR P_i24_1 (hw.2.1 6 (by decide)) (hw.s rfl) rfl rfl (show P_aw _ _ _ 4 [.ref (w.2.2 6), P_z 8, P_z u] [.ref (w.2.2 7)] _ _ from ?_)
  refine P_aw_op (L' := [.ref (w.2.2 6), P_z 8, P_z u]) (st' := [.ref (w.2.2 6), .ref (w.2.2 7)]) P_i24_4 rfl (show P_aw _ _ _ 5 [.ref (w.2.2 6), P_z 8, P_z u] [.ref (w.2.2 6), .ref (w.2.2 7)] _ _ from ?_)
  refine P_aw_getv P_i24_5 (hw.2.1 6 (by decide)) (hw.s rfl) rfl rfl ((P_u2_ne (by omega)).trans (hps.2.1)) (show P_aw _ _ _ 8 [.ref (w.2.2 6), P_z 8, P_z u] [P_z it, .ref (w.2.2 7)] _ _ from ?_)
  refine P_aw_op (L' := [.ref (w.2.2 6), P_z 8, P_z u]) (st' := [P_z 8, P_z it, .ref (w.2.2 7)]) P_i24_8 rfl (show P_aw _ _ _ 9 [.ref (w.2.2 6), P_z 8, P_z u] [P_z 8, P_z it, .ref (w.2.2 7)] _ _ from ?_)
  refine P_aw_call P_i24_9 rfl rfl (fun _ => rfl) rfl rfl rfl rfl (y2 := 179) (as := [.ref (w.2.2 7), P_z it, P_z 8]) (r0 := []) (fun _ _ => rfl) (Nat.le_of_ble_eq_true rfl) (by decide) rfl (Nat.le_of_ble_eq_true rfl) (show P_aw _ _ _ 0 [.ref (w.2.2 7), P_z it, P_z 8] [] _ _ from ?_)
  refine P_aw_op (L' := [.ref (w.2.2 7), P_z it, P_z 8]) (st' := [P_z it]) P_i179_0 rfl (show P_aw _ _ _ 1 [.ref (w.2.2 7), P_z it, P_z 8] [P_z it] _ _ from ?_)
  refine P_aw_izf P_i179_1 ⟨by omega, by omega⟩ (P_ci_ltf (by omega)) (show P_aw _ _ _ 4 [.ref (w.2.2 7), P_z it, P_z 8] [] _ _ from ?_)
  refine P_aw_op (L' := [.ref (w.2.2 7), P_z it, P_z 8]) (st' := [P_z it]) P_i179_4 rfl (show P_aw _ _ _ 5 [.ref (w.2.2 7), P_z it, P_z 8] [P_z it] _ _ from ?_)
  refine P_aw_op (L' := [.ref (w.2.2 7), P_z it, P_z 8]) (st' := [.ref (w.2.2 7), P_z it]) P_i179_5 rfl (show P_aw _ _ _ 6 [.ref (w.2.2 7), P_z it, P_z 8] [.ref (w.2.2 7), P_z it] _ _ from ?_)
  refine P_aw_alen P_i179_6 (hw.2.1 7 (by decide)) (hw.s rfl) (show P_aw _ _ _ 7 [.ref (w.2.2 7), P_z it, P_z 8] [P_z 4, P_z it] _ _ from ?_)
  refine P_aw_icf P_i179_7 ⟨by omega, by omega⟩ ⟨by decide, by decide⟩ (P_ci_gef (by omega)) (show P_aw _ _ _ 10 [.ref (w.2.2 7), P_z it, P_z 8] [] _ _ from ?_)
  refine P_aw_op (L' := [.ref (w.2.2 7), P_z it, P_z 8]) (st' := [.ref (w.2.2 7)]) P_i179_10 rfl (show P_aw _ _ _ 11 [.ref (w.2.2 7), P_z it, P_z 8] [.ref (w.2.2 7)] _ _ from ?_)
  refine P_aw_op (L' := [.ref (w.2.2 7), P_z it, P_z 8]) (st' := [P_z it, .ref (w.2.2 7)]) P_i179_11 rfl (show P_aw _ _ _ 12 [.ref (w.2.2 7), P_z it, P_z 8] [P_z it, .ref (w.2.2 7)] _ _ from ?_)
  refine P_aw_op (L' := [.ref (w.2.2 7), P_z it, P_z 8]) (st' := [P_z 8, P_z it, .ref (w.2.2 7)]) P_i179_12 rfl (show P_aw _ _ _ 13 [.ref (w.2.2 7), P_z it, P_z 8] [P_z 8, P_z it, .ref (w.2.2 7)] _ _ from ?_)
  refine P_aw_ast P_i179_13 (hw.2.1 7 (by decide)) (hw.s rfl) (by omega) (by omega) (by decide) (show P_aw _ _ _ 14 [.ref (w.2.2 7), P_z it, P_z 8] [] _ _ from ?_)
  refine P_aw_end P_i179_14 rfl rfl (fun _ => rfl) rfl ?_
  show P_aw _ _ _ 12 [.ref (w.2.2 6), P_z 8, P_z u] [] _ _
  refine P_aw_op (L' := [.ref (w.2.2 6), P_z 8, P_z u]) (st' := [.ref (w.2.2 6)]) P_i24_12 rfl (show P_aw _ _ _ 13 [.ref (w.2.2 6), P_z 8, P_z u] [.ref (w.2.2 6)] _ _ from ?_)
  refine P_aw_getR P_i24_13 (hw.2.1 6 (by decide)) (hw.s rfl) rfl rfl (show P_aw _ _ _ 16 [.ref (w.2.2 6), P_z 8, P_z u] [.ref (w.2.2 8)] _ _ from ?_)
  refine P_aw_op (L' := [.ref (w.2.2 6), P_z 8, P_z u]) (st' := [.ref (w.2.2 6), .ref (w.2.2 8)]) P_i24_16 rfl (show P_aw _ _ _ 17 [.ref (w.2.2 6), P_z 8, P_z u] [.ref (w.2.2 6), .ref (w.2.2 8)] _ _ from ?_)
  refine P_aw_getv P_i24_17 (hw.2.1 6 (by decide)) (hw.s rfl) rfl rfl ((P_u2_ne (by omega)).trans ((P_u2_ne (by omega)).trans (hps.2.1))) (show P_aw _ _ _ 20 [.ref (w.2.2 6), P_z 8, P_z u] [P_z it, .ref (w.2.2 8)] _ _ from ?_)
  refine P_aw_op (L' := [.ref (w.2.2 6), P_z 8, P_z u]) (st' := [P_z u, P_z it, .ref (w.2.2 8)]) P_i24_20 rfl (show P_aw _ _ _ 21 [.ref (w.2.2 6), P_z 8, P_z u] [P_z u, P_z it, .ref (w.2.2 8)] _ _ from ?_)
  refine P_aw_call P_i24_21 rfl rfl (fun _ => rfl) rfl rfl rfl rfl (y2 := 179) (as := [.ref (w.2.2 8), P_z it, P_z u]) (r0 := []) (fun _ _ => rfl) (Nat.le_of_ble_eq_true rfl) (by decide) rfl (Nat.le_of_ble_eq_true rfl) (show P_aw _ _ _ 0 [.ref (w.2.2 8), P_z it, P_z u] [] _ _ from ?_)
  refine P_aw_op (L' := [.ref (w.2.2 8), P_z it, P_z u]) (st' := [P_z it]) P_i179_0 rfl (show P_aw _ _ _ 1 [.ref (w.2.2 8), P_z it, P_z u] [P_z it] _ _ from ?_)
  refine P_aw_izf P_i179_1 ⟨by omega, by omega⟩ (P_ci_ltf (by omega)) (show P_aw _ _ _ 4 [.ref (w.2.2 8), P_z it, P_z u] [] _ _ from ?_)
  refine P_aw_op (L' := [.ref (w.2.2 8), P_z it, P_z u]) (st' := [P_z it]) P_i179_4 rfl (show P_aw _ _ _ 5 [.ref (w.2.2 8), P_z it, P_z u] [P_z it] _ _ from ?_)
  refine P_aw_op (L' := [.ref (w.2.2 8), P_z it, P_z u]) (st' := [.ref (w.2.2 8), P_z it]) P_i179_5 rfl (show P_aw _ _ _ 6 [.ref (w.2.2 8), P_z it, P_z u] [.ref (w.2.2 8), P_z it] _ _ from ?_)
  refine P_aw_alen P_i179_6 (hw.2.1 8 (by decide)) (hw.s rfl) (show P_aw _ _ _ 7 [.ref (w.2.2 8), P_z it, P_z u] [P_z 4, P_z it] _ _ from ?_)
  refine P_aw_icf P_i179_7 ⟨by omega, by omega⟩ ⟨by decide, by decide⟩ (P_ci_gef (by omega)) (show P_aw _ _ _ 10 [.ref (w.2.2 8), P_z it, P_z u] [] _ _ from ?_)
  refine P_aw_op (L' := [.ref (w.2.2 8), P_z it, P_z u]) (st' := [.ref (w.2.2 8)]) P_i179_10 rfl (show P_aw _ _ _ 11 [.ref (w.2.2 8), P_z it, P_z u] [.ref (w.2.2 8)] _ _ from ?_)
  refine P_aw_op (L' := [.ref (w.2.2 8), P_z it, P_z u]) (st' := [P_z it, .ref (w.2.2 8)]) P_i179_11 rfl (show P_aw _ _ _ 12 [.ref (w.2.2 8), P_z it, P_z u] [P_z it, .ref (w.2.2 8)] _ _ from ?_)
  refine P_aw_op (L' := [.ref (w.2.2 8), P_z it, P_z u]) (st' := [P_z u, P_z it, .ref (w.2.2 8)]) P_i179_12 rfl (show P_aw _ _ _ 13 [.ref (w.2.2 8), P_z it, P_z u] [P_z u, P_z it, .ref (w.2.2 8)] _ _ from ?_)
  refine P_aw_ast P_i179_13 (hw.2.1 8 (by decide)) (hw.s rfl) (by omega) (by omega) (by decide) (show P_aw _ _ _ 14 [.ref (w.2.2 8), P_z it, P_z u] [] _ _ from ?_)
  refine P_aw_end P_i179_14 rfl rfl (fun _ => rfl) rfl ?_
  show P_aw _ _ _ 24 [.ref (w.2.2 6), P_z 8, P_z u] [] _ _
  refine P_aw_op (L' := [.ref (w.2.2 6), P_z 8, P_z u]) (st' := [.ref (w.2.2 6)]) P_i24_24 rfl (show P_aw _ _ _ 25 [.ref (w.2.2 6), P_z 8, P_z u] [.ref (w.2.2 6)] _ _ from ?_)
  refine P_aw_op (L' := [.ref (w.2.2 6), P_z 8, P_z u]) (st' := [.ref (w.2.2 6), .ref (w.2.2 6)]) P_i24_25 rfl (show P_aw _ _ _ 26 [.ref (w.2.2 6), P_z 8, P_z u] [.ref (w.2.2 6), .ref (w.2.2 6)] _ _ from ?_)
  refine P_aw_getv P_i24_26 (hw.2.1 6 (by decide)) (hw.s rfl) rfl rfl ((P_u2_ne (by omega)).trans ((P_u2_ne (by omega)).trans ((P_u2_ne (by omega)).trans (hps.2.1)))) (show P_aw _ _ _ 29 [.ref (w.2.2 6), P_z 8, P_z u] [P_z it, .ref (w.2.2 6)] _ _ from ?_)
  refine P_aw_op (L' := [.ref (w.2.2 6), P_z 8, P_z u]) (st' := [P_z 1, P_z it, .ref (w.2.2 6)]) P_i24_29 rfl (show P_aw _ _ _ 30 [.ref (w.2.2 6), P_z 8, P_z u] [P_z 1, P_z it, .ref (w.2.2 6)] _ _ from ?_)
  refine P_aw_op (L' := [.ref (w.2.2 6), P_z 8, P_z u]) (st' := [P_z (it + 1), .ref (w.2.2 6)]) P_i24_30 P_o_iadd (show P_aw _ _ _ 31 [.ref (w.2.2 6), P_z 8, P_z u] [P_z (it + 1), .ref (w.2.2 6)] _ _ from ?_)
  refine P_aw_put P_i24_31 (hw.2.1 6 (by decide)) (hw.s rfl) rfl rfl rfl (show P_aw _ _ _ 34 [.ref (w.2.2 6), P_z 8, P_z u] [] _ _ from ?_)
  refine P_aw_end P_i24_34 rfl rfl (fun _ => rfl) rfl ?_
  show P_aw _ _ _ 93 [.ref (w.2.2 29), P_z 8] [] _ _
  refine P_aw_op (L' := [.ref (w.2.2 29), P_z 8]) (st' := [.ref (w.2.2 29)]) P_i101_93 rfl (show P_aw _ _ _ 94 [.ref (w.2.2 29), P_z 8] [.ref (w.2.2 29)] _ _ from ?_)
  refine P_aw_op (L' := [.ref (w.2.2 29), P_z 8]) (st' := [.ref (w.2.2 29), .ref (w.2.2 29)]) P_i101_94 rfl (show P_aw _ _ _ 95 [.ref (w.2.2 29), P_z 8] [.ref (w.2.2 29), .ref (w.2.2 29)] _ _ from ?_)
  refine P_aw_getv P_i101_95 (hw.2.1 29 (by decide)) (hw.s rfl) rfl rfl ((P_u2_ne (by omega)).trans ((P_u2_ne (by omega)).trans ((P_u2_ne (by omega)).trans (P_u2_at)))) (show P_aw _ _ _ 98 [.ref (w.2.2 29), P_z 8] [P_z (p + 1), .ref (w.2.2 29)] _ _ from ?_)
  refine P_aw_op (L' := [.ref (w.2.2 29), P_z 8]) (st' := [P_z 1, P_z (p + 1), .ref (w.2.2 29)]) P_i101_98 rfl (show P_aw _ _ _ 99 [.ref (w.2.2 29), P_z 8] [P_z 1, P_z (p + 1), .ref (w.2.2 29)] _ _ from ?_)
  refine P_aw_op (L' := [.ref (w.2.2 29), P_z 8]) (st' := [P_z ((p + 1) + 1), .ref (w.2.2 29)]) P_i101_99 P_o_iadd (show P_aw _ _ _ 100 [.ref (w.2.2 29), P_z 8] [P_z ((p + 1) + 1), .ref (w.2.2 29)] _ _ from ?_)
  refine P_aw_put P_i101_100 (hw.2.1 29 (by decide)) (hw.s rfl) rfl rfl rfl (show P_aw _ _ _ 103 [.ref (w.2.2 29), P_z 8] [] _ _ from ?_)
  refine P_aw_goto P_i101_103 (show P_aw _ _ _ 116 [.ref (w.2.2 29), P_z 8] [] _ _ from ?_)
  refine P_aw_op (L' := [.ref (w.2.2 29), P_z 8]) (st' := [P_z 1]) P_i101_116 rfl (show P_aw _ _ _ 117 [.ref (w.2.2 29), P_z 8] [P_z 1] _ _ from ?_)
  refine P_aw_end P_i101_117 rfl rfl (fun _ => rfl) rfl ?_
  obtain ⟨hq1, hq2⟩ := A_PS_it (σ' := (P_u2 (P_u2 (P_u2 (P_u2 (P_u2 σ 29 8 (p + 1)) 7 it.toNat 8) 8 it.toNat u) 6 4 (it + 1)) 29 8 ((p + 1) + 1))) (by omega) (fun a b h1 h2 h3 h4 => (P_u2_ne (by omega)).trans ((P_u2_ne (by omega)).trans ((P_u2_ne (by omega)).trans ((P_u2_ne (by omega)).trans (P_u2_ne (by omega)))))) (P_u2_at) ((P_u2_ne (by omega)).trans (P_u2_at)) (by rw [hk]; exact (P_u2_ne (by omega)).trans ((P_u2_ne (by omega)).trans ((P_u2_ne (by omega)).trans (P_u2_at)))) (by rw [hc]; exact (P_u2_ne (by omega)).trans ((P_u2_ne (by omega)).trans (P_u2_at))) hps; exact q _ hq1 hq2

def A_iok (k c : Int) : Prop := k = -1 ∧ 100 ≤ c ∧ c ≤ 199 ∨ k = 7 ∧ c = -1 ∨ k = 8 ∧ 100 ≤ c ∧ c ≤ 199
theorem s_ri {w : P_Lw} (hw : P_Cw w) {d : Nat} {Q : P_R → P_A → Prop} {σ : P_A} {p ln it : Int} {ki ci : Int → Int} {ns : Int} {tb : Int → Nat} {cs : List A_cd} {gp oi lm : Int} {B : List Int} (hps : A_PS σ p it ki ci ns tb cs gp oi lm) (hln : σ 29 4 = ln) (hp : 0 ≤ p ∧ p + ((A_itk (ki it) (ci it) ++ B).length : Int) ≤ ln ∧ ln ≤ 40) (hit : 0 ≤ it ∧ it ≤ 3) (ht : A_tkn σ p (A_itk (ki it) (ci it) ++ B)) (hok : A_iok (ki it) (ci it)) (q : ∀ σ', (A_PS σ' (p + ((A_itk (ki it) (ci it)).length : Int)) (it + 1) ki ci ns tb cs gp oi lm) → A_rfr σ σ' → Q (.inl (some (P_z 1))) σ') : P_aw w (d + 6) 101 0 [.ref (w.2.2 29), P_un] [] σ Q := by
  rcases hok with ⟨hk, hc⟩ | ⟨hk, hc⟩ | ⟨hk, hc⟩
  · have e : A_itk (ki it) (ci it) = [ci it] := by unfold A_itk; rw [if_neg (by omega), if_neg (by omega)]
    rw [e] at ht hp q
    simp at hp
    exact s_ri_c (u := 0) hw hps hln ⟨hp.1, by omega, hp.2.2⟩ hit (A_tkn_c ht).1 hc hk rfl q
  · have e : A_itk (ki it) (ci it) = [7] := by unfold A_itk; rw [if_pos hk]
    rw [e] at ht hp q
    simp at hp
    exact s_ri_n (u := 0) (t := 0) hw hps hln ⟨hp.1, by omega, hp.2.2⟩ hit (A_tkn_c ht).1 hk hc q
  · have e : A_itk (ki it) (ci it) = [8, ci it] := by unfold A_itk; rw [if_neg (by omega), if_pos hk]
    rw [e] at ht hp q
    simp at hp
    refine s_ri_s (t := 0) hw hps hln ⟨hp.1, by omega, hp.2.2⟩ hit (A_tkn_c ht).1 (A_tkn_c (A_tkn_c ht).2).1 hc hk rfl (fun σ' k1 k2 => q σ' ?_ k2)
    simp
    rw [show p + 2 = p + 1 + 1 by omega]
    exact k1
theorem s_ritl {w : P_Lw} (hw : P_Cw w) {d : Nat} {Q : P_R → P_A → Prop} {ki ci : Int → Int} {ns : Int} {tb : Int → Nat} {cs : List A_cd} {gp oi lm ln m : Int} (hm : m ≤ 4) (hok : ∀ j, 0 ≤ j → j < m → A_iok (ki j) (ci j)) : ∀ (n : Nat) (σ : P_A) (p i : Int) (B : List Int), 1 ≤ i → i + (n : Int) = m → A_PS σ p i ki ci ns tb cs gp oi lm → σ 29 4 = ln → (0 ≤ p ∧ p + ((A_its ki ci n i ++ 1 :: B).length : Int) ≤ ln ∧ ln ≤ 40) → A_tkn σ p (A_its ki ci n i ++ 1 :: B) → (∀ σ', A_PS σ' (p + ((A_its ki ci n i).length : Int) + 1) (i + (n : Int)) ki ci ns tb cs gp oi lm → A_rfr σ σ' → Q (.inl (some (P_z 1))) σ') → P_aw w (d + 7) 100 11 [.ref (w.2.2 29), P_z i] [] σ Q := by
  intro n
  induction n with
  | zero =>
    intro σ p i B hi hin hps hln hp ht q
    simp only [A_its, List.nil_append] at hp ht
    have hp2 : p < ln := by simp at hp; omega
    refine P_aw_op (L' := [.ref (w.2.2 29), P_z i]) (st' := [P_z i]) P_i100_11 rfl (show P_aw _ _ _ 12 [.ref (w.2.2 29), P_z i] [P_z i] _ _ from ?_)
    refine P_aw_op (L' := [.ref (w.2.2 29), P_z i]) (st' := [P_z 4, P_z i]) P_i100_12 rfl (show P_aw _ _ _ 13 [.ref (w.2.2 29), P_z i] [P_z 4, P_z i] _ _ from ?_)
    rcases Int.lt_or_le i 4 with hc1 | hc1
    · refine P_aw_icf P_i100_13 ⟨by omega, by omega⟩ ⟨by decide, by decide⟩ (P_ci_gef (by omega)) (show P_aw _ _ _ 16 [.ref (w.2.2 29), P_z i] [] _ _ from ?_)
      refine P_aw_op (L' := [.ref (w.2.2 29), P_z i]) (st' := [.ref (w.2.2 29)]) P_i100_16 rfl (show P_aw _ _ _ 17 [.ref (w.2.2 29), P_z i] [.ref (w.2.2 29)] _ _ from ?_)
      refine P_aw_op (L' := [.ref (w.2.2 29), P_z i]) (st' := [.ref (w.2.2 29), .ref (w.2.2 29)]) P_i100_17 rfl (show P_aw _ _ _ 18 [.ref (w.2.2 29), P_z i] [.ref (w.2.2 29), .ref (w.2.2 29)] _ _ from ?_)
      refine P_aw_call P_i100_18 rfl rfl (fun _ => rfl) rfl rfl rfl rfl (y2 := 110) (as := [.ref (w.2.2 29)]) (r0 := [.ref (w.2.2 29)]) (P_inv_v (hw.2.1 29 (by decide)) (hw.s rfl) rfl rfl) (Nat.le_of_ble_eq_true rfl) (by decide) rfl (Nat.le_of_ble_eq_true rfl) (show P_aw _ _ _ 0 [.ref (w.2.2 29)] [] _ _ from ?_)
      refine P_aw_op (L' := [.ref (w.2.2 29)]) (st' := [.ref (w.2.2 29)]) P_i110_0 rfl (show P_aw _ _ _ 1 [.ref (w.2.2 29)] [.ref (w.2.2 29)] _ _ from ?_)
      refine P_aw_getv P_i110_1 (hw.2.1 29 (by decide)) (hw.s rfl) rfl rfl (hps.1) (show P_aw _ _ _ 4 [.ref (w.2.2 29)] [P_z p] _ _ from ?_)
      refine P_aw_op (L' := [.ref (w.2.2 29)]) (st' := [.ref (w.2.2 29), P_z p]) P_i110_4 rfl (show P_aw _ _ _ 5 [.ref (w.2.2 29)] [.ref (w.2.2 29), P_z p] _ _ from ?_)
      refine P_aw_getv P_i110_5 (hw.2.1 29 (by decide)) (hw.s rfl) rfl rfl (hln) (show P_aw _ _ _ 8 [.ref (w.2.2 29)] [P_z ln, P_z p] _ _ from ?_)
      refine P_aw_icf P_i110_8 ⟨by omega, by omega⟩ ⟨by omega, by omega⟩ (P_ci_gef (by omega)) (show P_aw _ _ _ 11 [.ref (w.2.2 29)] [] _ _ from ?_)
      refine P_aw_op (L' := [.ref (w.2.2 29)]) (st' := [.ref (w.2.2 29)]) P_i110_11 rfl (show P_aw _ _ _ 12 [.ref (w.2.2 29)] [.ref (w.2.2 29)] _ _ from ?_)
      refine P_aw_getR P_i110_12 (hw.2.1 29 (by decide)) (hw.s rfl) rfl rfl (show P_aw _ _ _ 15 [.ref (w.2.2 29)] [.ref (w.2.2 30)] _ _ from ?_)
      refine P_aw_op (L' := [.ref (w.2.2 29)]) (st' := [.ref (w.2.2 29), .ref (w.2.2 30)]) P_i110_15 rfl (show P_aw _ _ _ 16 [.ref (w.2.2 29)] [.ref (w.2.2 29), .ref (w.2.2 30)] _ _ from ?_)
      refine P_aw_getv P_i110_16 (hw.2.1 29 (by decide)) (hw.s rfl) rfl rfl (hps.1) (show P_aw _ _ _ 19 [.ref (w.2.2 29)] [P_z p, .ref (w.2.2 30)] _ _ from ?_)
      refine P_aw_call P_i110_19 rfl rfl (fun _ => rfl) rfl rfl rfl rfl (y2 := 178) (as := [.ref (w.2.2 30), P_z p]) (r0 := []) (fun _ _ => rfl) (Nat.le_of_ble_eq_true rfl) (by decide) rfl (Nat.le_of_ble_eq_true rfl) (show P_aw _ _ _ 0 [.ref (w.2.2 30), P_z p] [] _ _ from ?_)
      refine P_aw_op (L' := [.ref (w.2.2 30), P_z p]) (st' := [P_z p]) P_i178_0 rfl (show P_aw _ _ _ 1 [.ref (w.2.2 30), P_z p] [P_z p] _ _ from ?_)
      refine P_aw_izf P_i178_1 ⟨by omega, by omega⟩ (P_ci_ltf (by omega)) (show P_aw _ _ _ 4 [.ref (w.2.2 30), P_z p] [] _ _ from ?_)
      refine P_aw_op (L' := [.ref (w.2.2 30), P_z p]) (st' := [P_z p]) P_i178_4 rfl (show P_aw _ _ _ 5 [.ref (w.2.2 30), P_z p] [P_z p] _ _ from ?_)
      refine P_aw_op (L' := [.ref (w.2.2 30), P_z p]) (st' := [.ref (w.2.2 30), P_z p]) P_i178_5 rfl (show P_aw _ _ _ 6 [.ref (w.2.2 30), P_z p] [.ref (w.2.2 30), P_z p] _ _ from ?_)
      refine P_aw_alen P_i178_6 (hw.2.1 30 (by decide)) (hw.s rfl) (show P_aw _ _ _ 7 [.ref (w.2.2 30), P_z p] [P_z 40, P_z p] _ _ from ?_)
      refine P_aw_icf P_i178_7 ⟨by omega, by omega⟩ ⟨by decide, by decide⟩ (P_ci_gef (by omega)) (show P_aw _ _ _ 10 [.ref (w.2.2 30), P_z p] [] _ _ from ?_)
      refine P_aw_op (L' := [.ref (w.2.2 30), P_z p]) (st' := [.ref (w.2.2 30)]) P_i178_10 rfl (show P_aw _ _ _ 11 [.ref (w.2.2 30), P_z p] [.ref (w.2.2 30)] _ _ from ?_)
      refine P_aw_op (L' := [.ref (w.2.2 30), P_z p]) (st' := [P_z p, .ref (w.2.2 30)]) P_i178_11 rfl (show P_aw _ _ _ 12 [.ref (w.2.2 30), P_z p] [P_z p, .ref (w.2.2 30)] _ _ from ?_)
      refine P_aw_aldv P_i178_12 (hw.2.1 30 (by decide)) (hw.s rfl) (by omega) (by omega) (by decide) ((A_tkn_c ht).1) (show P_aw _ _ _ 13 [.ref (w.2.2 30), P_z p] [P_z 1] _ _ from ?_)
      refine P_aw_goto P_i178_13 (show P_aw _ _ _ 17 [.ref (w.2.2 30), P_z p] [P_z 1] _ _ from ?_)
      refine P_aw_end P_i178_17 rfl rfl (fun _ => rfl) rfl ?_
      show P_aw _ _ _ 22 [.ref (w.2.2 29)] [P_z 1] _ _
      refine P_aw_goto P_i110_22 (show P_aw _ _ _ 26 [.ref (w.2.2 29)] [P_z 1] _ _ from ?_)
      refine P_aw_end P_i110_26 rfl rfl (fun _ => rfl) rfl ?_
      show P_aw _ _ _ 21 [.ref (w.2.2 29), P_z i] [P_z 1, .ref (w.2.2 29)] _ _
      refine P_aw_call P_i100_21 rfl rfl (fun _ => rfl) rfl rfl rfl rfl (y2 := 111) (as := [.ref (w.2.2 29), P_z 1]) (r0 := []) (P_inv_v (hw.2.1 29 (by decide)) (hw.s rfl) rfl rfl) (Nat.le_of_ble_eq_true rfl) (by decide) rfl (Nat.le_of_ble_eq_true rfl) (show P_aw _ _ _ 0 [.ref (w.2.2 29), P_z 1] [] _ _ from ?_)
      refine P_aw_op (L' := [.ref (w.2.2 29), P_z 1]) (st' := [P_z 1]) P_i111_0 rfl (show P_aw _ _ _ 1 [.ref (w.2.2 29), P_z 1] [P_z 1] _ _ from ?_)
      refine P_aw_op (L' := [.ref (w.2.2 29), P_z 1]) (st' := [P_z 7, P_z 1]) P_i111_1 (P_o_bi (by decide)) (show P_aw _ _ _ 3 [.ref (w.2.2 29), P_z 1] [P_z 7, P_z 1] _ _ from ?_)
      refine P_aw_icf P_i111_3 ⟨by decide, by decide⟩ ⟨by decide, by decide⟩ (P_ci_eqf (by omega)) (show P_aw _ _ _ 6 [.ref (w.2.2 29), P_z 1] [] _ _ from ?_)
      refine P_aw_op (L' := [.ref (w.2.2 29), P_z 1]) (st' := [P_z 1]) P_i111_6 rfl (show P_aw _ _ _ 7 [.ref (w.2.2 29), P_z 1] [P_z 1] _ _ from ?_)
      refine P_aw_op (L' := [.ref (w.2.2 29), P_z 1]) (st' := [P_z 8, P_z 1]) P_i111_7 (P_o_bi (by decide)) (show P_aw _ _ _ 9 [.ref (w.2.2 29), P_z 1] [P_z 8, P_z 1] _ _ from ?_)
      refine P_aw_icf P_i111_9 ⟨by decide, by decide⟩ ⟨by decide, by decide⟩ (P_ci_eqf (by omega)) (show P_aw _ _ _ 12 [.ref (w.2.2 29), P_z 1] [] _ _ from ?_)
      refine P_aw_op (L' := [.ref (w.2.2 29), P_z 1]) (st' := [P_z 1]) P_i111_12 rfl (show P_aw _ _ _ 13 [.ref (w.2.2 29), P_z 1] [P_z 1] _ _ from ?_)
      refine P_aw_call P_i111_13 rfl rfl (fun _ => rfl) rfl rfl rfl rfl (y2 := 174) (as := [P_z 1]) (r0 := []) (fun _ _ => rfl) (Nat.le_of_ble_eq_true rfl) (by decide) rfl (Nat.le_of_ble_eq_true rfl) (show P_aw _ _ _ 0 [P_z 1] [] _ _ from ?_)
      refine P_aw_op (L' := [P_z 1]) (st' := [P_z 1]) P_i174_0 rfl (show P_aw _ _ _ 1 [P_z 1] [P_z 1] _ _ from ?_)
      refine P_aw_op (L' := [P_z 1]) (st' := [P_z 100, P_z 1]) P_i174_1 (P_o_bi (by decide)) (show P_aw _ _ _ 3 [P_z 1] [P_z 100, P_z 1] _ _ from ?_)
      refine P_aw_ict P_i174_3 ⟨by decide, by decide⟩ ⟨by decide, by decide⟩ (P_ci_ltt (by omega)) (show P_aw _ _ _ 17 [P_z 1] [] _ _ from ?_)
      refine P_aw_op (L' := [P_z 1]) (st' := [P_z 0]) P_i174_17 rfl (show P_aw _ _ _ 18 [P_z 1] [P_z 0] _ _ from ?_)
      refine P_aw_end P_i174_18 rfl rfl (fun _ => rfl) rfl ?_
      show P_aw _ _ _ 16 [.ref (w.2.2 29), P_z 1] [P_z 0] _ _
      refine P_aw_izt P_i111_16 ⟨by decide, by decide⟩ (P_ci_eqt (by omega)) (show P_aw _ _ _ 23 [.ref (w.2.2 29), P_z 1] [] _ _ from ?_)
      refine P_aw_op (L' := [.ref (w.2.2 29), P_z 1]) (st' := [P_z 0]) P_i111_23 rfl (show P_aw _ _ _ 24 [.ref (w.2.2 29), P_z 1] [P_z 0] _ _ from ?_)
      refine P_aw_end P_i111_24 rfl rfl (fun _ => rfl) rfl ?_
      show P_aw _ _ _ 24 [.ref (w.2.2 29), P_z i] [P_z 0] _ _
      refine P_aw_izt P_i100_24 ⟨by decide, by decide⟩ (P_ci_eqt (by omega)) (show P_aw _ _ _ 42 [.ref (w.2.2 29), P_z i] [] _ _ from ?_)
      refine P_aw_op (L' := [.ref (w.2.2 29), P_z i]) (st' := [.ref (w.2.2 29)]) P_i100_42 rfl (show P_aw _ _ _ 43 [.ref (w.2.2 29), P_z i] [.ref (w.2.2 29)] _ _ from ?_)
      refine P_aw_call P_i100_43 rfl rfl (fun _ => rfl) rfl rfl rfl rfl (y2 := 110) (as := [.ref (w.2.2 29)]) (r0 := []) (P_inv_v (hw.2.1 29 (by decide)) (hw.s rfl) rfl rfl) (Nat.le_of_ble_eq_true rfl) (by decide) rfl (Nat.le_of_ble_eq_true rfl) (show P_aw _ _ _ 0 [.ref (w.2.2 29)] [] _ _ from ?_)
      refine P_aw_op (L' := [.ref (w.2.2 29)]) (st' := [.ref (w.2.2 29)]) P_i110_0 rfl (show P_aw _ _ _ 1 [.ref (w.2.2 29)] [.ref (w.2.2 29)] _ _ from ?_)
      refine P_aw_getv P_i110_1 (hw.2.1 29 (by decide)) (hw.s rfl) rfl rfl (hps.1) (show P_aw _ _ _ 4 [.ref (w.2.2 29)] [P_z p] _ _ from ?_)
      refine P_aw_op (L' := [.ref (w.2.2 29)]) (st' := [.ref (w.2.2 29), P_z p]) P_i110_4 rfl (show P_aw _ _ _ 5 [.ref (w.2.2 29)] [.ref (w.2.2 29), P_z p] _ _ from ?_)
      refine P_aw_getv P_i110_5 (hw.2.1 29 (by decide)) (hw.s rfl) rfl rfl (hln) (show P_aw _ _ _ 8 [.ref (w.2.2 29)] [P_z ln, P_z p] _ _ from ?_)
      refine P_aw_icf P_i110_8 ⟨by omega, by omega⟩ ⟨by omega, by omega⟩ (P_ci_gef (by omega)) (show P_aw _ _ _ 11 [.ref (w.2.2 29)] [] _ _ from ?_)
      refine P_aw_op (L' := [.ref (w.2.2 29)]) (st' := [.ref (w.2.2 29)]) P_i110_11 rfl (show P_aw _ _ _ 12 [.ref (w.2.2 29)] [.ref (w.2.2 29)] _ _ from ?_)
      refine P_aw_getR P_i110_12 (hw.2.1 29 (by decide)) (hw.s rfl) rfl rfl (show P_aw _ _ _ 15 [.ref (w.2.2 29)] [.ref (w.2.2 30)] _ _ from ?_)
      refine P_aw_op (L' := [.ref (w.2.2 29)]) (st' := [.ref (w.2.2 29), .ref (w.2.2 30)]) P_i110_15 rfl (show P_aw _ _ _ 16 [.ref (w.2.2 29)] [.ref (w.2.2 29), .ref (w.2.2 30)] _ _ from ?_)
      refine P_aw_getv P_i110_16 (hw.2.1 29 (by decide)) (hw.s rfl) rfl rfl (hps.1) (show P_aw _ _ _ 19 [.ref (w.2.2 29)] [P_z p, .ref (w.2.2 30)] _ _ from ?_)
      refine P_aw_call P_i110_19 rfl rfl (fun _ => rfl) rfl rfl rfl rfl (y2 := 178) (as := [.ref (w.2.2 30), P_z p]) (r0 := []) (fun _ _ => rfl) (Nat.le_of_ble_eq_true rfl) (by decide) rfl (Nat.le_of_ble_eq_true rfl) (show P_aw _ _ _ 0 [.ref (w.2.2 30), P_z p] [] _ _ from ?_)
      refine P_aw_op (L' := [.ref (w.2.2 30), P_z p]) (st' := [P_z p]) P_i178_0 rfl (show P_aw _ _ _ 1 [.ref (w.2.2 30), P_z p] [P_z p] _ _ from ?_)
      refine P_aw_izf P_i178_1 ⟨by omega, by omega⟩ (P_ci_ltf (by omega)) (show P_aw _ _ _ 4 [.ref (w.2.2 30), P_z p] [] _ _ from ?_)
      refine P_aw_op (L' := [.ref (w.2.2 30), P_z p]) (st' := [P_z p]) P_i178_4 rfl (show P_aw _ _ _ 5 [.ref (w.2.2 30), P_z p] [P_z p] _ _ from ?_)
      refine P_aw_op (L' := [.ref (w.2.2 30), P_z p]) (st' := [.ref (w.2.2 30), P_z p]) P_i178_5 rfl (show P_aw _ _ _ 6 [.ref (w.2.2 30), P_z p] [.ref (w.2.2 30), P_z p] _ _ from ?_)
      refine P_aw_alen P_i178_6 (hw.2.1 30 (by decide)) (hw.s rfl) (show P_aw _ _ _ 7 [.ref (w.2.2 30), P_z p] [P_z 40, P_z p] _ _ from ?_)
      refine P_aw_icf P_i178_7 ⟨by omega, by omega⟩ ⟨by decide, by decide⟩ (P_ci_gef (by omega)) (show P_aw _ _ _ 10 [.ref (w.2.2 30), P_z p] [] _ _ from ?_)
      refine P_aw_op (L' := [.ref (w.2.2 30), P_z p]) (st' := [.ref (w.2.2 30)]) P_i178_10 rfl (show P_aw _ _ _ 11 [.ref (w.2.2 30), P_z p] [.ref (w.2.2 30)] _ _ from ?_)
      refine P_aw_op (L' := [.ref (w.2.2 30), P_z p]) (st' := [P_z p, .ref (w.2.2 30)]) P_i178_11 rfl (show P_aw _ _ _ 12 [.ref (w.2.2 30), P_z p] [P_z p, .ref (w.2.2 30)] _ _ from ?_)
      refine P_aw_aldv P_i178_12 (hw.2.1 30 (by decide)) (hw.s rfl) (by omega) (by omega) (by decide) ((A_tkn_c ht).1) (show P_aw _ _ _ 13 [.ref (w.2.2 30), P_z p] [P_z 1] _ _ from ?_)
      refine P_aw_goto P_i178_13 (show P_aw _ _ _ 17 [.ref (w.2.2 30), P_z p] [P_z 1] _ _ from ?_)
      refine P_aw_end P_i178_17 rfl rfl (fun _ => rfl) rfl ?_
      show P_aw _ _ _ 22 [.ref (w.2.2 29)] [P_z 1] _ _
      refine P_aw_goto P_i110_22 (show P_aw _ _ _ 26 [.ref (w.2.2 29)] [P_z 1] _ _ from ?_)
      refine P_aw_end P_i110_26 rfl rfl (fun _ => rfl) rfl ?_
      show P_aw _ _ _ 46 [.ref (w.2.2 29), P_z i] [P_z 1] _ _
      refine P_aw_op (L' := [.ref (w.2.2 29), P_z i]) (st' := [P_z 1, P_z 1]) P_i100_46 rfl (show P_aw _ _ _ 47 [.ref (w.2.2 29), P_z i] [P_z 1, P_z 1] _ _ from ?_)
      refine P_aw_ict P_i100_47 ⟨by decide, by decide⟩ ⟨by decide, by decide⟩ (P_ci_eqt (by omega)) (show P_aw _ _ _ 60 [.ref (w.2.2 29), P_z i] [] _ _ from ?_)
      refine P_aw_op (L' := [.ref (w.2.2 29), P_z i]) (st' := [.ref (w.2.2 29)]) P_i100_60 rfl (show P_aw _ _ _ 61 [.ref (w.2.2 29), P_z i] [.ref (w.2.2 29)] _ _ from ?_)
      refine P_aw_op (L' := [.ref (w.2.2 29), P_z i]) (st' := [.ref (w.2.2 29), .ref (w.2.2 29)]) P_i100_61 rfl (show P_aw _ _ _ 62 [.ref (w.2.2 29), P_z i] [.ref (w.2.2 29), .ref (w.2.2 29)] _ _ from ?_)
      refine P_aw_getv P_i100_62 (hw.2.1 29 (by decide)) (hw.s rfl) rfl rfl (hps.1) (show P_aw _ _ _ 65 [.ref (w.2.2 29), P_z i] [P_z p, .ref (w.2.2 29)] _ _ from ?_)
      refine P_aw_op (L' := [.ref (w.2.2 29), P_z i]) (st' := [P_z 1, P_z p, .ref (w.2.2 29)]) P_i100_65 rfl (show P_aw _ _ _ 66 [.ref (w.2.2 29), P_z i] [P_z 1, P_z p, .ref (w.2.2 29)] _ _ from ?_)
      refine P_aw_op (L' := [.ref (w.2.2 29), P_z i]) (st' := [P_z (p + 1), .ref (w.2.2 29)]) P_i100_66 P_o_iadd (show P_aw _ _ _ 67 [.ref (w.2.2 29), P_z i] [P_z (p + 1), .ref (w.2.2 29)] _ _ from ?_)
      refine P_aw_put P_i100_67 (hw.2.1 29 (by decide)) (hw.s rfl) rfl rfl rfl (show P_aw _ _ _ 70 [.ref (w.2.2 29), P_z i] [] _ _ from ?_)
      refine P_aw_op (L' := [.ref (w.2.2 29), P_z i]) (st' := [P_z 1]) P_i100_70 rfl (show P_aw _ _ _ 71 [.ref (w.2.2 29), P_z i] [P_z 1] _ _ from ?_)
      refine P_aw_end P_i100_71 rfl rfl (fun _ => rfl) rfl ?_
      obtain ⟨hq1, hq2⟩ := A_PS_tl (σ' := (P_u2 σ 29 8 (p + 1))) (gp' := gp) (oi' := oi) (lm' := lm) (fun a b h1 h2 => P_u2_ne (by omega)) P_u2_at ((P_u2_ne (by omega)).trans hps.2.2.2.2.2.2.1) ((P_u2_ne (by omega)).trans hps.2.2.2.2.2.2.2.1) ((P_u2_ne (by omega)).trans hps.2.2.2.2.2.2.2.2.1) hps; exact q _ (by simp [A_its]; exact hq1) hq2
    · refine P_aw_ict P_i100_13 ⟨by omega, by omega⟩ ⟨by decide, by decide⟩ (P_ci_get (by omega)) (show P_aw _ _ _ 42 [.ref (w.2.2 29), P_z i] [] _ _ from ?_)
      refine P_aw_op (L' := [.ref (w.2.2 29), P_z i]) (st' := [.ref (w.2.2 29)]) P_i100_42 rfl (show P_aw _ _ _ 43 [.ref (w.2.2 29), P_z i] [.ref (w.2.2 29)] _ _ from ?_)
      refine P_aw_call P_i100_43 rfl rfl (fun _ => rfl) rfl rfl rfl rfl (y2 := 110) (as := [.ref (w.2.2 29)]) (r0 := []) (P_inv_v (hw.2.1 29 (by decide)) (hw.s rfl) rfl rfl) (Nat.le_of_ble_eq_true rfl) (by decide) rfl (Nat.le_of_ble_eq_true rfl) (show P_aw _ _ _ 0 [.ref (w.2.2 29)] [] _ _ from ?_)
      refine P_aw_op (L' := [.ref (w.2.2 29)]) (st' := [.ref (w.2.2 29)]) P_i110_0 rfl (show P_aw _ _ _ 1 [.ref (w.2.2 29)] [.ref (w.2.2 29)] _ _ from ?_)
      refine P_aw_getv P_i110_1 (hw.2.1 29 (by decide)) (hw.s rfl) rfl rfl (hps.1) (show P_aw _ _ _ 4 [.ref (w.2.2 29)] [P_z p] _ _ from ?_)
      refine P_aw_op (L' := [.ref (w.2.2 29)]) (st' := [.ref (w.2.2 29), P_z p]) P_i110_4 rfl (show P_aw _ _ _ 5 [.ref (w.2.2 29)] [.ref (w.2.2 29), P_z p] _ _ from ?_)
      refine P_aw_getv P_i110_5 (hw.2.1 29 (by decide)) (hw.s rfl) rfl rfl (hln) (show P_aw _ _ _ 8 [.ref (w.2.2 29)] [P_z ln, P_z p] _ _ from ?_)
      refine P_aw_icf P_i110_8 ⟨by omega, by omega⟩ ⟨by omega, by omega⟩ (P_ci_gef (by omega)) (show P_aw _ _ _ 11 [.ref (w.2.2 29)] [] _ _ from ?_)
      refine P_aw_op (L' := [.ref (w.2.2 29)]) (st' := [.ref (w.2.2 29)]) P_i110_11 rfl (show P_aw _ _ _ 12 [.ref (w.2.2 29)] [.ref (w.2.2 29)] _ _ from ?_)
      refine P_aw_getR P_i110_12 (hw.2.1 29 (by decide)) (hw.s rfl) rfl rfl (show P_aw _ _ _ 15 [.ref (w.2.2 29)] [.ref (w.2.2 30)] _ _ from ?_)
      refine P_aw_op (L' := [.ref (w.2.2 29)]) (st' := [.ref (w.2.2 29), .ref (w.2.2 30)]) P_i110_15 rfl (show P_aw _ _ _ 16 [.ref (w.2.2 29)] [.ref (w.2.2 29), .ref (w.2.2 30)] _ _ from ?_)
      refine P_aw_getv P_i110_16 (hw.2.1 29 (by decide)) (hw.s rfl) rfl rfl (hps.1) (show P_aw _ _ _ 19 [.ref (w.2.2 29)] [P_z p, .ref (w.2.2 30)] _ _ from ?_)
      refine P_aw_call P_i110_19 rfl rfl (fun _ => rfl) rfl rfl rfl rfl (y2 := 178) (as := [.ref (w.2.2 30), P_z p]) (r0 := []) (fun _ _ => rfl) (Nat.le_of_ble_eq_true rfl) (by decide) rfl (Nat.le_of_ble_eq_true rfl) (show P_aw _ _ _ 0 [.ref (w.2.2 30), P_z p] [] _ _ from ?_)
      refine P_aw_op (L' := [.ref (w.2.2 30), P_z p]) (st' := [P_z p]) P_i178_0 rfl (show P_aw _ _ _ 1 [.ref (w.2.2 30), P_z p] [P_z p] _ _ from ?_)
      refine P_aw_izf P_i178_1 ⟨by omega, by omega⟩ (P_ci_ltf (by omega)) (show P_aw _ _ _ 4 [.ref (w.2.2 30), P_z p] [] _ _ from ?_)
      refine P_aw_op (L' := [.ref (w.2.2 30), P_z p]) (st' := [P_z p]) P_i178_4 rfl (show P_aw _ _ _ 5 [.ref (w.2.2 30), P_z p] [P_z p] _ _ from ?_)
      refine P_aw_op (L' := [.ref (w.2.2 30), P_z p]) (st' := [.ref (w.2.2 30), P_z p]) P_i178_5 rfl (show P_aw _ _ _ 6 [.ref (w.2.2 30), P_z p] [.ref (w.2.2 30), P_z p] _ _ from ?_)
      refine P_aw_alen P_i178_6 (hw.2.1 30 (by decide)) (hw.s rfl) (show P_aw _ _ _ 7 [.ref (w.2.2 30), P_z p] [P_z 40, P_z p] _ _ from ?_)
      refine P_aw_icf P_i178_7 ⟨by omega, by omega⟩ ⟨by decide, by decide⟩ (P_ci_gef (by omega)) (show P_aw _ _ _ 10 [.ref (w.2.2 30), P_z p] [] _ _ from ?_)
      refine P_aw_op (L' := [.ref (w.2.2 30), P_z p]) (st' := [.ref (w.2.2 30)]) P_i178_10 rfl (show P_aw _ _ _ 11 [.ref (w.2.2 30), P_z p] [.ref (w.2.2 30)] _ _ from ?_)
      refine P_aw_op (L' := [.ref (w.2.2 30), P_z p]) (st' := [P_z p, .ref (w.2.2 30)]) P_i178_11 rfl (show P_aw _ _ _ 12 [.ref (w.2.2 30), P_z p] [P_z p, .ref (w.2.2 30)] _ _ from ?_)
      refine P_aw_aldv P_i178_12 (hw.2.1 30 (by decide)) (hw.s rfl) (by omega) (by omega) (by decide) ((A_tkn_c ht).1) (show P_aw _ _ _ 13 [.ref (w.2.2 30), P_z p] [P_z 1] _ _ from ?_)
      refine P_aw_goto P_i178_13 (show P_aw _ _ _ 17 [.ref (w.2.2 30), P_z p] [P_z 1] _ _ from ?_)
      refine P_aw_end P_i178_17 rfl rfl (fun _ => rfl) rfl ?_
      show P_aw _ _ _ 22 [.ref (w.2.2 29)] [P_z 1] _ _
      refine P_aw_goto P_i110_22 (show P_aw _ _ _ 26 [.ref (w.2.2 29)] [P_z 1] _ _ from ?_)
      refine P_aw_end P_i110_26 rfl rfl (fun _ => rfl) rfl ?_
      show P_aw _ _ _ 46 [.ref (w.2.2 29), P_z i] [P_z 1] _ _
      refine P_aw_op (L' := [.ref (w.2.2 29), P_z i]) (st' := [P_z 1, P_z 1]) P_i100_46 rfl (show P_aw _ _ _ 47 [.ref (w.2.2 29), P_z i] [P_z 1, P_z 1] _ _ from ?_)
      refine P_aw_ict P_i100_47 ⟨by decide, by decide⟩ ⟨by decide, by decide⟩ (P_ci_eqt (by omega)) (show P_aw _ _ _ 60 [.ref (w.2.2 29), P_z i] [] _ _ from ?_)
      refine P_aw_op (L' := [.ref (w.2.2 29), P_z i]) (st' := [.ref (w.2.2 29)]) P_i100_60 rfl (show P_aw _ _ _ 61 [.ref (w.2.2 29), P_z i] [.ref (w.2.2 29)] _ _ from ?_)
      refine P_aw_op (L' := [.ref (w.2.2 29), P_z i]) (st' := [.ref (w.2.2 29), .ref (w.2.2 29)]) P_i100_61 rfl (show P_aw _ _ _ 62 [.ref (w.2.2 29), P_z i] [.ref (w.2.2 29), .ref (w.2.2 29)] _ _ from ?_)
      refine P_aw_getv P_i100_62 (hw.2.1 29 (by decide)) (hw.s rfl) rfl rfl (hps.1) (show P_aw _ _ _ 65 [.ref (w.2.2 29), P_z i] [P_z p, .ref (w.2.2 29)] _ _ from ?_)
      refine P_aw_op (L' := [.ref (w.2.2 29), P_z i]) (st' := [P_z 1, P_z p, .ref (w.2.2 29)]) P_i100_65 rfl (show P_aw _ _ _ 66 [.ref (w.2.2 29), P_z i] [P_z 1, P_z p, .ref (w.2.2 29)] _ _ from ?_)
      refine P_aw_op (L' := [.ref (w.2.2 29), P_z i]) (st' := [P_z (p + 1), .ref (w.2.2 29)]) P_i100_66 P_o_iadd (show P_aw _ _ _ 67 [.ref (w.2.2 29), P_z i] [P_z (p + 1), .ref (w.2.2 29)] _ _ from ?_)
      refine P_aw_put P_i100_67 (hw.2.1 29 (by decide)) (hw.s rfl) rfl rfl rfl (show P_aw _ _ _ 70 [.ref (w.2.2 29), P_z i] [] _ _ from ?_)
      refine P_aw_op (L' := [.ref (w.2.2 29), P_z i]) (st' := [P_z 1]) P_i100_70 rfl (show P_aw _ _ _ 71 [.ref (w.2.2 29), P_z i] [P_z 1] _ _ from ?_)
      refine P_aw_end P_i100_71 rfl rfl (fun _ => rfl) rfl ?_
      obtain ⟨hq1, hq2⟩ := A_PS_tl (σ' := (P_u2 σ 29 8 (p + 1))) (gp' := gp) (oi' := oi) (lm' := lm) (fun a b h1 h2 => P_u2_ne (by omega)) P_u2_at ((P_u2_ne (by omega)).trans hps.2.2.2.2.2.2.1) ((P_u2_ne (by omega)).trans hps.2.2.2.2.2.2.2.1) ((P_u2_ne (by omega)).trans hps.2.2.2.2.2.2.2.2.1) hps; exact q _ (by simp [A_its]; exact hq1) hq2
  | succ n ih =>
    intro σ p i B hi hin hps hln hp ht q
    simp only [A_its, List.append_assoc] at hp ht
    have hoki := hok i (by omega) (by omega)
    have e3 : ((A_itk (ki i) (ci i) ++ (A_its ki ci n (i + 1) ++ 1 :: B)).length : Int) = ((A_itk (ki i) (ci i)).length : Int) + ((A_its ki ci n (i + 1) ++ 1 :: B).length : Int) := by rw [List.length_append]; omega
    obtain ⟨h, R, eh, hhr⟩ : ∃ h R, A_itk (ki i) (ci i) = h :: R ∧ (h = 7 ∨ h = 8 ∨ 100 ≤ h ∧ h ≤ 199) := by
      unfold A_itk
      rcases hoki with ⟨hk, hc⟩ | ⟨hk, hc⟩ | ⟨hk, hc⟩
      · rw [if_neg (by omega), if_neg (by omega)]; exact ⟨_, _, rfl, Or.inr (Or.inr hc)⟩
      · rw [if_pos hk]; exact ⟨_, _, rfl, Or.inl rfl⟩
      · rw [if_neg (by omega), if_pos hk]; exact ⟨_, _, rfl, Or.inr (Or.inl rfl)⟩
    have hh : σ 30 p.toNat = h := by
      have := ht
      rw [eh] at this
      exact (A_tkn_c this).1
    have hp2 : p < ln := by rw [eh] at hp; simp at hp; omega
    rcases hhr with rfl | rfl | hhr
    · refine P_aw_op (L' := [.ref (w.2.2 29), P_z i]) (st' := [P_z i]) P_i100_11 rfl (show P_aw _ _ _ 12 [.ref (w.2.2 29), P_z i] [P_z i] _ _ from ?_)
      refine P_aw_op (L' := [.ref (w.2.2 29), P_z i]) (st' := [P_z 4, P_z i]) P_i100_12 rfl (show P_aw _ _ _ 13 [.ref (w.2.2 29), P_z i] [P_z 4, P_z i] _ _ from ?_)
      refine P_aw_icf P_i100_13 ⟨by omega, by omega⟩ ⟨by decide, by decide⟩ (P_ci_gef (by omega)) (show P_aw _ _ _ 16 [.ref (w.2.2 29), P_z i] [] _ _ from ?_)
      refine P_aw_op (L' := [.ref (w.2.2 29), P_z i]) (st' := [.ref (w.2.2 29)]) P_i100_16 rfl (show P_aw _ _ _ 17 [.ref (w.2.2 29), P_z i] [.ref (w.2.2 29)] _ _ from ?_)
      refine P_aw_op (L' := [.ref (w.2.2 29), P_z i]) (st' := [.ref (w.2.2 29), .ref (w.2.2 29)]) P_i100_17 rfl (show P_aw _ _ _ 18 [.ref (w.2.2 29), P_z i] [.ref (w.2.2 29), .ref (w.2.2 29)] _ _ from ?_)
      refine P_aw_call P_i100_18 rfl rfl (fun _ => rfl) rfl rfl rfl rfl (y2 := 110) (as := [.ref (w.2.2 29)]) (r0 := [.ref (w.2.2 29)]) (P_inv_v (hw.2.1 29 (by decide)) (hw.s rfl) rfl rfl) (Nat.le_of_ble_eq_true rfl) (by decide) rfl (Nat.le_of_ble_eq_true rfl) (show P_aw _ _ _ 0 [.ref (w.2.2 29)] [] _ _ from ?_)
      refine P_aw_op (L' := [.ref (w.2.2 29)]) (st' := [.ref (w.2.2 29)]) P_i110_0 rfl (show P_aw _ _ _ 1 [.ref (w.2.2 29)] [.ref (w.2.2 29)] _ _ from ?_)
      refine P_aw_getv P_i110_1 (hw.2.1 29 (by decide)) (hw.s rfl) rfl rfl (hps.1) (show P_aw _ _ _ 4 [.ref (w.2.2 29)] [P_z p] _ _ from ?_)
      refine P_aw_op (L' := [.ref (w.2.2 29)]) (st' := [.ref (w.2.2 29), P_z p]) P_i110_4 rfl (show P_aw _ _ _ 5 [.ref (w.2.2 29)] [.ref (w.2.2 29), P_z p] _ _ from ?_)
      refine P_aw_getv P_i110_5 (hw.2.1 29 (by decide)) (hw.s rfl) rfl rfl (hln) (show P_aw _ _ _ 8 [.ref (w.2.2 29)] [P_z ln, P_z p] _ _ from ?_)
      refine P_aw_icf P_i110_8 ⟨by omega, by omega⟩ ⟨by omega, by omega⟩ (P_ci_gef (by omega)) (show P_aw _ _ _ 11 [.ref (w.2.2 29)] [] _ _ from ?_)
      refine P_aw_op (L' := [.ref (w.2.2 29)]) (st' := [.ref (w.2.2 29)]) P_i110_11 rfl (show P_aw _ _ _ 12 [.ref (w.2.2 29)] [.ref (w.2.2 29)] _ _ from ?_)
      refine P_aw_getR P_i110_12 (hw.2.1 29 (by decide)) (hw.s rfl) rfl rfl (show P_aw _ _ _ 15 [.ref (w.2.2 29)] [.ref (w.2.2 30)] _ _ from ?_)
      refine P_aw_op (L' := [.ref (w.2.2 29)]) (st' := [.ref (w.2.2 29), .ref (w.2.2 30)]) P_i110_15 rfl (show P_aw _ _ _ 16 [.ref (w.2.2 29)] [.ref (w.2.2 29), .ref (w.2.2 30)] _ _ from ?_)
      refine P_aw_getv P_i110_16 (hw.2.1 29 (by decide)) (hw.s rfl) rfl rfl (hps.1) (show P_aw _ _ _ 19 [.ref (w.2.2 29)] [P_z p, .ref (w.2.2 30)] _ _ from ?_)
      refine P_aw_call P_i110_19 rfl rfl (fun _ => rfl) rfl rfl rfl rfl (y2 := 178) (as := [.ref (w.2.2 30), P_z p]) (r0 := []) (fun _ _ => rfl) (Nat.le_of_ble_eq_true rfl) (by decide) rfl (Nat.le_of_ble_eq_true rfl) (show P_aw _ _ _ 0 [.ref (w.2.2 30), P_z p] [] _ _ from ?_)
      refine P_aw_op (L' := [.ref (w.2.2 30), P_z p]) (st' := [P_z p]) P_i178_0 rfl (show P_aw _ _ _ 1 [.ref (w.2.2 30), P_z p] [P_z p] _ _ from ?_)
      refine P_aw_izf P_i178_1 ⟨by omega, by omega⟩ (P_ci_ltf (by omega)) (show P_aw _ _ _ 4 [.ref (w.2.2 30), P_z p] [] _ _ from ?_)
      refine P_aw_op (L' := [.ref (w.2.2 30), P_z p]) (st' := [P_z p]) P_i178_4 rfl (show P_aw _ _ _ 5 [.ref (w.2.2 30), P_z p] [P_z p] _ _ from ?_)
      refine P_aw_op (L' := [.ref (w.2.2 30), P_z p]) (st' := [.ref (w.2.2 30), P_z p]) P_i178_5 rfl (show P_aw _ _ _ 6 [.ref (w.2.2 30), P_z p] [.ref (w.2.2 30), P_z p] _ _ from ?_)
      refine P_aw_alen P_i178_6 (hw.2.1 30 (by decide)) (hw.s rfl) (show P_aw _ _ _ 7 [.ref (w.2.2 30), P_z p] [P_z 40, P_z p] _ _ from ?_)
      refine P_aw_icf P_i178_7 ⟨by omega, by omega⟩ ⟨by decide, by decide⟩ (P_ci_gef (by omega)) (show P_aw _ _ _ 10 [.ref (w.2.2 30), P_z p] [] _ _ from ?_)
      refine P_aw_op (L' := [.ref (w.2.2 30), P_z p]) (st' := [.ref (w.2.2 30)]) P_i178_10 rfl (show P_aw _ _ _ 11 [.ref (w.2.2 30), P_z p] [.ref (w.2.2 30)] _ _ from ?_)
      refine P_aw_op (L' := [.ref (w.2.2 30), P_z p]) (st' := [P_z p, .ref (w.2.2 30)]) P_i178_11 rfl (show P_aw _ _ _ 12 [.ref (w.2.2 30), P_z p] [P_z p, .ref (w.2.2 30)] _ _ from ?_)
      refine P_aw_aldv P_i178_12 (hw.2.1 30 (by decide)) (hw.s rfl) (by omega) (by omega) (by decide) (hh) (show P_aw _ _ _ 13 [.ref (w.2.2 30), P_z p] [P_z 7] _ _ from ?_)
      refine P_aw_goto P_i178_13 (show P_aw _ _ _ 17 [.ref (w.2.2 30), P_z p] [P_z 7] _ _ from ?_)
      refine P_aw_end P_i178_17 rfl rfl (fun _ => rfl) rfl ?_
      show P_aw _ _ _ 22 [.ref (w.2.2 29)] [P_z 7] _ _
      refine P_aw_goto P_i110_22 (show P_aw _ _ _ 26 [.ref (w.2.2 29)] [P_z 7] _ _ from ?_)
      refine P_aw_end P_i110_26 rfl rfl (fun _ => rfl) rfl ?_
      show P_aw _ _ _ 21 [.ref (w.2.2 29), P_z i] [P_z 7, .ref (w.2.2 29)] _ _
      refine P_aw_call P_i100_21 rfl rfl (fun _ => rfl) rfl rfl rfl rfl (y2 := 111) (as := [.ref (w.2.2 29), P_z 7]) (r0 := []) (P_inv_v (hw.2.1 29 (by decide)) (hw.s rfl) rfl rfl) (Nat.le_of_ble_eq_true rfl) (by decide) rfl (Nat.le_of_ble_eq_true rfl) (show P_aw _ _ _ 0 [.ref (w.2.2 29), P_z 7] [] _ _ from ?_)
      refine P_aw_op (L' := [.ref (w.2.2 29), P_z 7]) (st' := [P_z 7]) P_i111_0 rfl (show P_aw _ _ _ 1 [.ref (w.2.2 29), P_z 7] [P_z 7] _ _ from ?_)
      refine P_aw_op (L' := [.ref (w.2.2 29), P_z 7]) (st' := [P_z 7, P_z 7]) P_i111_1 (P_o_bi (by decide)) (show P_aw _ _ _ 3 [.ref (w.2.2 29), P_z 7] [P_z 7, P_z 7] _ _ from ?_)
      refine P_aw_ict P_i111_3 ⟨by decide, by decide⟩ ⟨by decide, by decide⟩ (P_ci_eqt (by omega)) (show P_aw _ _ _ 19 [.ref (w.2.2 29), P_z 7] [] _ _ from ?_)
      refine P_aw_op (L' := [.ref (w.2.2 29), P_z 7]) (st' := [P_z 1]) P_i111_19 rfl (show P_aw _ _ _ 20 [.ref (w.2.2 29), P_z 7] [P_z 1] _ _ from ?_)
      refine P_aw_goto P_i111_20 (show P_aw _ _ _ 24 [.ref (w.2.2 29), P_z 7] [P_z 1] _ _ from ?_)
      refine P_aw_end P_i111_24 rfl rfl (fun _ => rfl) rfl ?_
      show P_aw _ _ _ 24 [.ref (w.2.2 29), P_z i] [P_z 1] _ _
      refine P_aw_izf P_i100_24 ⟨by decide, by decide⟩ (P_ci_eqf (by omega)) (show P_aw _ _ _ 27 [.ref (w.2.2 29), P_z i] [] _ _ from ?_)
      refine P_aw_op (L' := [.ref (w.2.2 29), P_z i]) (st' := [.ref (w.2.2 29)]) P_i100_27 rfl (show P_aw _ _ _ 28 [.ref (w.2.2 29), P_z i] [.ref (w.2.2 29)] _ _ from ?_)
      refine P_aw_call P_i100_28 rfl rfl (fun _ => rfl) rfl rfl rfl rfl (y2 := 101) (as := [.ref (w.2.2 29)]) (r0 := []) (P_inv_v (hw.2.1 29 (by decide)) (hw.s rfl) rfl rfl) (Nat.le_of_ble_eq_true rfl) (by decide) rfl (Nat.le_of_ble_eq_true rfl) (s_ri (B := A_its ki ci n (i + 1) ++ 1 :: B) hw hps hln (by rw [e3] at hp; exact ⟨hp.1, by omega, hp.2.2⟩) (by omega) ht (hok i (by omega) (by omega)) (fun σ2 k1 k2 => ?_))
      show P_aw _ _ _ 31 [.ref (w.2.2 29), P_z i] [P_z 1] _ _
      refine P_aw_izt P_i100_31 ⟨by decide, by decide⟩ (P_ci_net (by omega)) (show P_aw _ _ _ 36 [.ref (w.2.2 29), P_z i] [] _ _ from ?_)
      refine P_aw_op (L' := [.ref (w.2.2 29), P_z (i + 1)]) (st' := []) P_i100_36 (P_o_iinc rfl) (show P_aw _ _ _ 39 [.ref (w.2.2 29), P_z (i + 1)] [] _ _ from ?_)
      refine P_aw_goto P_i100_39 (show P_aw _ _ _ 11 [.ref (w.2.2 29), P_z (i + 1)] [] _ _ from ?_)
      refine ih σ2 (p + ((A_itk (ki i) (ci i)).length : Int)) (i + 1) B (by omega) (by omega) k1 ((k2 29 4 (by omega) (by omega) (by omega) (by omega)).trans hln) (by rw [e3] at hp; omega) (A_tkn_cg (fun b => k2 30 b (by omega) (by omega) (by omega) (by omega)) (A_tkn_a ht).2) (fun σ' g1 g2 => q σ' ?_ (A_rfr_tr k2 g2)); simp only [A_its, List.length_append]; rw [show p + (((A_itk (ki i) (ci i)).length + (A_its ki ci n (i + 1)).length : Nat) : Int) + 1 = p + ((A_itk (ki i) (ci i)).length : Int) + ((A_its ki ci n (i + 1)).length : Int) + 1 by omega, show i + ((n + 1 : Nat) : Int) = i + 1 + (n : Int) by omega]; exact g1
    · refine P_aw_op (L' := [.ref (w.2.2 29), P_z i]) (st' := [P_z i]) P_i100_11 rfl (show P_aw _ _ _ 12 [.ref (w.2.2 29), P_z i] [P_z i] _ _ from ?_)
      refine P_aw_op (L' := [.ref (w.2.2 29), P_z i]) (st' := [P_z 4, P_z i]) P_i100_12 rfl (show P_aw _ _ _ 13 [.ref (w.2.2 29), P_z i] [P_z 4, P_z i] _ _ from ?_)
      refine P_aw_icf P_i100_13 ⟨by omega, by omega⟩ ⟨by decide, by decide⟩ (P_ci_gef (by omega)) (show P_aw _ _ _ 16 [.ref (w.2.2 29), P_z i] [] _ _ from ?_)
      refine P_aw_op (L' := [.ref (w.2.2 29), P_z i]) (st' := [.ref (w.2.2 29)]) P_i100_16 rfl (show P_aw _ _ _ 17 [.ref (w.2.2 29), P_z i] [.ref (w.2.2 29)] _ _ from ?_)
      refine P_aw_op (L' := [.ref (w.2.2 29), P_z i]) (st' := [.ref (w.2.2 29), .ref (w.2.2 29)]) P_i100_17 rfl (show P_aw _ _ _ 18 [.ref (w.2.2 29), P_z i] [.ref (w.2.2 29), .ref (w.2.2 29)] _ _ from ?_)
      refine P_aw_call P_i100_18 rfl rfl (fun _ => rfl) rfl rfl rfl rfl (y2 := 110) (as := [.ref (w.2.2 29)]) (r0 := [.ref (w.2.2 29)]) (P_inv_v (hw.2.1 29 (by decide)) (hw.s rfl) rfl rfl) (Nat.le_of_ble_eq_true rfl) (by decide) rfl (Nat.le_of_ble_eq_true rfl) (show P_aw _ _ _ 0 [.ref (w.2.2 29)] [] _ _ from ?_)
      refine P_aw_op (L' := [.ref (w.2.2 29)]) (st' := [.ref (w.2.2 29)]) P_i110_0 rfl (show P_aw _ _ _ 1 [.ref (w.2.2 29)] [.ref (w.2.2 29)] _ _ from ?_)
      refine P_aw_getv P_i110_1 (hw.2.1 29 (by decide)) (hw.s rfl) rfl rfl (hps.1) (show P_aw _ _ _ 4 [.ref (w.2.2 29)] [P_z p] _ _ from ?_)
      refine P_aw_op (L' := [.ref (w.2.2 29)]) (st' := [.ref (w.2.2 29), P_z p]) P_i110_4 rfl (show P_aw _ _ _ 5 [.ref (w.2.2 29)] [.ref (w.2.2 29), P_z p] _ _ from ?_)
      refine P_aw_getv P_i110_5 (hw.2.1 29 (by decide)) (hw.s rfl) rfl rfl (hln) (show P_aw _ _ _ 8 [.ref (w.2.2 29)] [P_z ln, P_z p] _ _ from ?_)
      refine P_aw_icf P_i110_8 ⟨by omega, by omega⟩ ⟨by omega, by omega⟩ (P_ci_gef (by omega)) (show P_aw _ _ _ 11 [.ref (w.2.2 29)] [] _ _ from ?_)
      refine P_aw_op (L' := [.ref (w.2.2 29)]) (st' := [.ref (w.2.2 29)]) P_i110_11 rfl (show P_aw _ _ _ 12 [.ref (w.2.2 29)] [.ref (w.2.2 29)] _ _ from ?_)
      refine P_aw_getR P_i110_12 (hw.2.1 29 (by decide)) (hw.s rfl) rfl rfl (show P_aw _ _ _ 15 [.ref (w.2.2 29)] [.ref (w.2.2 30)] _ _ from ?_)
      refine P_aw_op (L' := [.ref (w.2.2 29)]) (st' := [.ref (w.2.2 29), .ref (w.2.2 30)]) P_i110_15 rfl (show P_aw _ _ _ 16 [.ref (w.2.2 29)] [.ref (w.2.2 29), .ref (w.2.2 30)] _ _ from ?_)
      refine P_aw_getv P_i110_16 (hw.2.1 29 (by decide)) (hw.s rfl) rfl rfl (hps.1) (show P_aw _ _ _ 19 [.ref (w.2.2 29)] [P_z p, .ref (w.2.2 30)] _ _ from ?_)
      refine P_aw_call P_i110_19 rfl rfl (fun _ => rfl) rfl rfl rfl rfl (y2 := 178) (as := [.ref (w.2.2 30), P_z p]) (r0 := []) (fun _ _ => rfl) (Nat.le_of_ble_eq_true rfl) (by decide) rfl (Nat.le_of_ble_eq_true rfl) (show P_aw _ _ _ 0 [.ref (w.2.2 30), P_z p] [] _ _ from ?_)
      refine P_aw_op (L' := [.ref (w.2.2 30), P_z p]) (st' := [P_z p]) P_i178_0 rfl (show P_aw _ _ _ 1 [.ref (w.2.2 30), P_z p] [P_z p] _ _ from ?_)
      refine P_aw_izf P_i178_1 ⟨by omega, by omega⟩ (P_ci_ltf (by omega)) (show P_aw _ _ _ 4 [.ref (w.2.2 30), P_z p] [] _ _ from ?_)
      refine P_aw_op (L' := [.ref (w.2.2 30), P_z p]) (st' := [P_z p]) P_i178_4 rfl (show P_aw _ _ _ 5 [.ref (w.2.2 30), P_z p] [P_z p] _ _ from ?_)
      refine P_aw_op (L' := [.ref (w.2.2 30), P_z p]) (st' := [.ref (w.2.2 30), P_z p]) P_i178_5 rfl (show P_aw _ _ _ 6 [.ref (w.2.2 30), P_z p] [.ref (w.2.2 30), P_z p] _ _ from ?_)
      refine P_aw_alen P_i178_6 (hw.2.1 30 (by decide)) (hw.s rfl) (show P_aw _ _ _ 7 [.ref (w.2.2 30), P_z p] [P_z 40, P_z p] _ _ from ?_)
      refine P_aw_icf P_i178_7 ⟨by omega, by omega⟩ ⟨by decide, by decide⟩ (P_ci_gef (by omega)) (show P_aw _ _ _ 10 [.ref (w.2.2 30), P_z p] [] _ _ from ?_)
      refine P_aw_op (L' := [.ref (w.2.2 30), P_z p]) (st' := [.ref (w.2.2 30)]) P_i178_10 rfl (show P_aw _ _ _ 11 [.ref (w.2.2 30), P_z p] [.ref (w.2.2 30)] _ _ from ?_)
      refine P_aw_op (L' := [.ref (w.2.2 30), P_z p]) (st' := [P_z p, .ref (w.2.2 30)]) P_i178_11 rfl (show P_aw _ _ _ 12 [.ref (w.2.2 30), P_z p] [P_z p, .ref (w.2.2 30)] _ _ from ?_)
      refine P_aw_aldv P_i178_12 (hw.2.1 30 (by decide)) (hw.s rfl) (by omega) (by omega) (by decide) (hh) (show P_aw _ _ _ 13 [.ref (w.2.2 30), P_z p] [P_z 8] _ _ from ?_)
      refine P_aw_goto P_i178_13 (show P_aw _ _ _ 17 [.ref (w.2.2 30), P_z p] [P_z 8] _ _ from ?_)
      refine P_aw_end P_i178_17 rfl rfl (fun _ => rfl) rfl ?_
      show P_aw _ _ _ 22 [.ref (w.2.2 29)] [P_z 8] _ _
      refine P_aw_goto P_i110_22 (show P_aw _ _ _ 26 [.ref (w.2.2 29)] [P_z 8] _ _ from ?_)
      refine P_aw_end P_i110_26 rfl rfl (fun _ => rfl) rfl ?_
      show P_aw _ _ _ 21 [.ref (w.2.2 29), P_z i] [P_z 8, .ref (w.2.2 29)] _ _
      refine P_aw_call P_i100_21 rfl rfl (fun _ => rfl) rfl rfl rfl rfl (y2 := 111) (as := [.ref (w.2.2 29), P_z 8]) (r0 := []) (P_inv_v (hw.2.1 29 (by decide)) (hw.s rfl) rfl rfl) (Nat.le_of_ble_eq_true rfl) (by decide) rfl (Nat.le_of_ble_eq_true rfl) (show P_aw _ _ _ 0 [.ref (w.2.2 29), P_z 8] [] _ _ from ?_)
      refine P_aw_op (L' := [.ref (w.2.2 29), P_z 8]) (st' := [P_z 8]) P_i111_0 rfl (show P_aw _ _ _ 1 [.ref (w.2.2 29), P_z 8] [P_z 8] _ _ from ?_)
      refine P_aw_op (L' := [.ref (w.2.2 29), P_z 8]) (st' := [P_z 7, P_z 8]) P_i111_1 (P_o_bi (by decide)) (show P_aw _ _ _ 3 [.ref (w.2.2 29), P_z 8] [P_z 7, P_z 8] _ _ from ?_)
      refine P_aw_icf P_i111_3 ⟨by decide, by decide⟩ ⟨by decide, by decide⟩ (P_ci_eqf (by omega)) (show P_aw _ _ _ 6 [.ref (w.2.2 29), P_z 8] [] _ _ from ?_)
      refine P_aw_op (L' := [.ref (w.2.2 29), P_z 8]) (st' := [P_z 8]) P_i111_6 rfl (show P_aw _ _ _ 7 [.ref (w.2.2 29), P_z 8] [P_z 8] _ _ from ?_)
      refine P_aw_op (L' := [.ref (w.2.2 29), P_z 8]) (st' := [P_z 8, P_z 8]) P_i111_7 (P_o_bi (by decide)) (show P_aw _ _ _ 9 [.ref (w.2.2 29), P_z 8] [P_z 8, P_z 8] _ _ from ?_)
      refine P_aw_ict P_i111_9 ⟨by decide, by decide⟩ ⟨by decide, by decide⟩ (P_ci_eqt (by omega)) (show P_aw _ _ _ 19 [.ref (w.2.2 29), P_z 8] [] _ _ from ?_)
      refine P_aw_op (L' := [.ref (w.2.2 29), P_z 8]) (st' := [P_z 1]) P_i111_19 rfl (show P_aw _ _ _ 20 [.ref (w.2.2 29), P_z 8] [P_z 1] _ _ from ?_)
      refine P_aw_goto P_i111_20 (show P_aw _ _ _ 24 [.ref (w.2.2 29), P_z 8] [P_z 1] _ _ from ?_)
      refine P_aw_end P_i111_24 rfl rfl (fun _ => rfl) rfl ?_
      show P_aw _ _ _ 24 [.ref (w.2.2 29), P_z i] [P_z 1] _ _
      refine P_aw_izf P_i100_24 ⟨by decide, by decide⟩ (P_ci_eqf (by omega)) (show P_aw _ _ _ 27 [.ref (w.2.2 29), P_z i] [] _ _ from ?_)
      refine P_aw_op (L' := [.ref (w.2.2 29), P_z i]) (st' := [.ref (w.2.2 29)]) P_i100_27 rfl (show P_aw _ _ _ 28 [.ref (w.2.2 29), P_z i] [.ref (w.2.2 29)] _ _ from ?_)
      refine P_aw_call P_i100_28 rfl rfl (fun _ => rfl) rfl rfl rfl rfl (y2 := 101) (as := [.ref (w.2.2 29)]) (r0 := []) (P_inv_v (hw.2.1 29 (by decide)) (hw.s rfl) rfl rfl) (Nat.le_of_ble_eq_true rfl) (by decide) rfl (Nat.le_of_ble_eq_true rfl) (s_ri (B := A_its ki ci n (i + 1) ++ 1 :: B) hw hps hln (by rw [e3] at hp; exact ⟨hp.1, by omega, hp.2.2⟩) (by omega) ht (hok i (by omega) (by omega)) (fun σ2 k1 k2 => ?_))
      show P_aw _ _ _ 31 [.ref (w.2.2 29), P_z i] [P_z 1] _ _
      refine P_aw_izt P_i100_31 ⟨by decide, by decide⟩ (P_ci_net (by omega)) (show P_aw _ _ _ 36 [.ref (w.2.2 29), P_z i] [] _ _ from ?_)
      refine P_aw_op (L' := [.ref (w.2.2 29), P_z (i + 1)]) (st' := []) P_i100_36 (P_o_iinc rfl) (show P_aw _ _ _ 39 [.ref (w.2.2 29), P_z (i + 1)] [] _ _ from ?_)
      refine P_aw_goto P_i100_39 (show P_aw _ _ _ 11 [.ref (w.2.2 29), P_z (i + 1)] [] _ _ from ?_)
      refine ih σ2 (p + ((A_itk (ki i) (ci i)).length : Int)) (i + 1) B (by omega) (by omega) k1 ((k2 29 4 (by omega) (by omega) (by omega) (by omega)).trans hln) (by rw [e3] at hp; omega) (A_tkn_cg (fun b => k2 30 b (by omega) (by omega) (by omega) (by omega)) (A_tkn_a ht).2) (fun σ' g1 g2 => q σ' ?_ (A_rfr_tr k2 g2)); simp only [A_its, List.length_append]; rw [show p + (((A_itk (ki i) (ci i)).length + (A_its ki ci n (i + 1)).length : Nat) : Int) + 1 = p + ((A_itk (ki i) (ci i)).length : Int) + ((A_its ki ci n (i + 1)).length : Int) + 1 by omega, show i + ((n + 1 : Nat) : Int) = i + 1 + (n : Int) by omega]; exact g1
    · refine P_aw_op (L' := [.ref (w.2.2 29), P_z i]) (st' := [P_z i]) P_i100_11 rfl (show P_aw _ _ _ 12 [.ref (w.2.2 29), P_z i] [P_z i] _ _ from ?_)
      refine P_aw_op (L' := [.ref (w.2.2 29), P_z i]) (st' := [P_z 4, P_z i]) P_i100_12 rfl (show P_aw _ _ _ 13 [.ref (w.2.2 29), P_z i] [P_z 4, P_z i] _ _ from ?_)
      refine P_aw_icf P_i100_13 ⟨by omega, by omega⟩ ⟨by decide, by decide⟩ (P_ci_gef (by omega)) (show P_aw _ _ _ 16 [.ref (w.2.2 29), P_z i] [] _ _ from ?_)
      refine P_aw_op (L' := [.ref (w.2.2 29), P_z i]) (st' := [.ref (w.2.2 29)]) P_i100_16 rfl (show P_aw _ _ _ 17 [.ref (w.2.2 29), P_z i] [.ref (w.2.2 29)] _ _ from ?_)
      refine P_aw_op (L' := [.ref (w.2.2 29), P_z i]) (st' := [.ref (w.2.2 29), .ref (w.2.2 29)]) P_i100_17 rfl (show P_aw _ _ _ 18 [.ref (w.2.2 29), P_z i] [.ref (w.2.2 29), .ref (w.2.2 29)] _ _ from ?_)
      refine P_aw_call P_i100_18 rfl rfl (fun _ => rfl) rfl rfl rfl rfl (y2 := 110) (as := [.ref (w.2.2 29)]) (r0 := [.ref (w.2.2 29)]) (P_inv_v (hw.2.1 29 (by decide)) (hw.s rfl) rfl rfl) (Nat.le_of_ble_eq_true rfl) (by decide) rfl (Nat.le_of_ble_eq_true rfl) (show P_aw _ _ _ 0 [.ref (w.2.2 29)] [] _ _ from ?_)
      refine P_aw_op (L' := [.ref (w.2.2 29)]) (st' := [.ref (w.2.2 29)]) P_i110_0 rfl (show P_aw _ _ _ 1 [.ref (w.2.2 29)] [.ref (w.2.2 29)] _ _ from ?_)
      refine P_aw_getv P_i110_1 (hw.2.1 29 (by decide)) (hw.s rfl) rfl rfl (hps.1) (show P_aw _ _ _ 4 [.ref (w.2.2 29)] [P_z p] _ _ from ?_)
      refine P_aw_op (L' := [.ref (w.2.2 29)]) (st' := [.ref (w.2.2 29), P_z p]) P_i110_4 rfl (show P_aw _ _ _ 5 [.ref (w.2.2 29)] [.ref (w.2.2 29), P_z p] _ _ from ?_)
      refine P_aw_getv P_i110_5 (hw.2.1 29 (by decide)) (hw.s rfl) rfl rfl (hln) (show P_aw _ _ _ 8 [.ref (w.2.2 29)] [P_z ln, P_z p] _ _ from ?_)
      refine P_aw_icf P_i110_8 ⟨by omega, by omega⟩ ⟨by omega, by omega⟩ (P_ci_gef (by omega)) (show P_aw _ _ _ 11 [.ref (w.2.2 29)] [] _ _ from ?_)
      refine P_aw_op (L' := [.ref (w.2.2 29)]) (st' := [.ref (w.2.2 29)]) P_i110_11 rfl (show P_aw _ _ _ 12 [.ref (w.2.2 29)] [.ref (w.2.2 29)] _ _ from ?_)
      refine P_aw_getR P_i110_12 (hw.2.1 29 (by decide)) (hw.s rfl) rfl rfl (show P_aw _ _ _ 15 [.ref (w.2.2 29)] [.ref (w.2.2 30)] _ _ from ?_)
      refine P_aw_op (L' := [.ref (w.2.2 29)]) (st' := [.ref (w.2.2 29), .ref (w.2.2 30)]) P_i110_15 rfl (show P_aw _ _ _ 16 [.ref (w.2.2 29)] [.ref (w.2.2 29), .ref (w.2.2 30)] _ _ from ?_)
      refine P_aw_getv P_i110_16 (hw.2.1 29 (by decide)) (hw.s rfl) rfl rfl (hps.1) (show P_aw _ _ _ 19 [.ref (w.2.2 29)] [P_z p, .ref (w.2.2 30)] _ _ from ?_)
      refine P_aw_call P_i110_19 rfl rfl (fun _ => rfl) rfl rfl rfl rfl (y2 := 178) (as := [.ref (w.2.2 30), P_z p]) (r0 := []) (fun _ _ => rfl) (Nat.le_of_ble_eq_true rfl) (by decide) rfl (Nat.le_of_ble_eq_true rfl) (show P_aw _ _ _ 0 [.ref (w.2.2 30), P_z p] [] _ _ from ?_)
      refine P_aw_op (L' := [.ref (w.2.2 30), P_z p]) (st' := [P_z p]) P_i178_0 rfl (show P_aw _ _ _ 1 [.ref (w.2.2 30), P_z p] [P_z p] _ _ from ?_)
      refine P_aw_izf P_i178_1 ⟨by omega, by omega⟩ (P_ci_ltf (by omega)) (show P_aw _ _ _ 4 [.ref (w.2.2 30), P_z p] [] _ _ from ?_)
      refine P_aw_op (L' := [.ref (w.2.2 30), P_z p]) (st' := [P_z p]) P_i178_4 rfl (show P_aw _ _ _ 5 [.ref (w.2.2 30), P_z p] [P_z p] _ _ from ?_)
      refine P_aw_op (L' := [.ref (w.2.2 30), P_z p]) (st' := [.ref (w.2.2 30), P_z p]) P_i178_5 rfl (show P_aw _ _ _ 6 [.ref (w.2.2 30), P_z p] [.ref (w.2.2 30), P_z p] _ _ from ?_)
      refine P_aw_alen P_i178_6 (hw.2.1 30 (by decide)) (hw.s rfl) (show P_aw _ _ _ 7 [.ref (w.2.2 30), P_z p] [P_z 40, P_z p] _ _ from ?_)
      refine P_aw_icf P_i178_7 ⟨by omega, by omega⟩ ⟨by decide, by decide⟩ (P_ci_gef (by omega)) (show P_aw _ _ _ 10 [.ref (w.2.2 30), P_z p] [] _ _ from ?_)
      refine P_aw_op (L' := [.ref (w.2.2 30), P_z p]) (st' := [.ref (w.2.2 30)]) P_i178_10 rfl (show P_aw _ _ _ 11 [.ref (w.2.2 30), P_z p] [.ref (w.2.2 30)] _ _ from ?_)
      refine P_aw_op (L' := [.ref (w.2.2 30), P_z p]) (st' := [P_z p, .ref (w.2.2 30)]) P_i178_11 rfl (show P_aw _ _ _ 12 [.ref (w.2.2 30), P_z p] [P_z p, .ref (w.2.2 30)] _ _ from ?_)
      refine P_aw_aldv P_i178_12 (hw.2.1 30 (by decide)) (hw.s rfl) (by omega) (by omega) (by decide) (hh) (show P_aw _ _ _ 13 [.ref (w.2.2 30), P_z p] [P_z h] _ _ from ?_)
      refine P_aw_goto P_i178_13 (show P_aw _ _ _ 17 [.ref (w.2.2 30), P_z p] [P_z h] _ _ from ?_)
      refine P_aw_end P_i178_17 rfl rfl (fun _ => rfl) rfl ?_
      show P_aw _ _ _ 22 [.ref (w.2.2 29)] [P_z h] _ _
      refine P_aw_goto P_i110_22 (show P_aw _ _ _ 26 [.ref (w.2.2 29)] [P_z h] _ _ from ?_)
      refine P_aw_end P_i110_26 rfl rfl (fun _ => rfl) rfl ?_
      show P_aw _ _ _ 21 [.ref (w.2.2 29), P_z i] [P_z h, .ref (w.2.2 29)] _ _
      refine P_aw_call P_i100_21 rfl rfl (fun _ => rfl) rfl rfl rfl rfl (y2 := 111) (as := [.ref (w.2.2 29), P_z h]) (r0 := []) (P_inv_v (hw.2.1 29 (by decide)) (hw.s rfl) rfl rfl) (Nat.le_of_ble_eq_true rfl) (by decide) rfl (Nat.le_of_ble_eq_true rfl) (show P_aw _ _ _ 0 [.ref (w.2.2 29), P_z h] [] _ _ from ?_)
      refine P_aw_op (L' := [.ref (w.2.2 29), P_z h]) (st' := [P_z h]) P_i111_0 rfl (show P_aw _ _ _ 1 [.ref (w.2.2 29), P_z h] [P_z h] _ _ from ?_)
      refine P_aw_op (L' := [.ref (w.2.2 29), P_z h]) (st' := [P_z 7, P_z h]) P_i111_1 (P_o_bi (by decide)) (show P_aw _ _ _ 3 [.ref (w.2.2 29), P_z h] [P_z 7, P_z h] _ _ from ?_)
      refine P_aw_icf P_i111_3 ⟨by omega, by omega⟩ ⟨by decide, by decide⟩ (P_ci_eqf (by omega)) (show P_aw _ _ _ 6 [.ref (w.2.2 29), P_z h] [] _ _ from ?_)
      refine P_aw_op (L' := [.ref (w.2.2 29), P_z h]) (st' := [P_z h]) P_i111_6 rfl (show P_aw _ _ _ 7 [.ref (w.2.2 29), P_z h] [P_z h] _ _ from ?_)
      refine P_aw_op (L' := [.ref (w.2.2 29), P_z h]) (st' := [P_z 8, P_z h]) P_i111_7 (P_o_bi (by decide)) (show P_aw _ _ _ 9 [.ref (w.2.2 29), P_z h] [P_z 8, P_z h] _ _ from ?_)
      refine P_aw_icf P_i111_9 ⟨by omega, by omega⟩ ⟨by decide, by decide⟩ (P_ci_eqf (by omega)) (show P_aw _ _ _ 12 [.ref (w.2.2 29), P_z h] [] _ _ from ?_)
      refine P_aw_op (L' := [.ref (w.2.2 29), P_z h]) (st' := [P_z h]) P_i111_12 rfl (show P_aw _ _ _ 13 [.ref (w.2.2 29), P_z h] [P_z h] _ _ from ?_)
      refine P_aw_call P_i111_13 rfl rfl (fun _ => rfl) rfl rfl rfl rfl (y2 := 174) (as := [P_z h]) (r0 := []) (fun _ _ => rfl) (Nat.le_of_ble_eq_true rfl) (by decide) rfl (Nat.le_of_ble_eq_true rfl) (show P_aw _ _ _ 0 [P_z h] [] _ _ from ?_)
      refine P_aw_op (L' := [P_z h]) (st' := [P_z h]) P_i174_0 rfl (show P_aw _ _ _ 1 [P_z h] [P_z h] _ _ from ?_)
      refine P_aw_op (L' := [P_z h]) (st' := [P_z 100, P_z h]) P_i174_1 (P_o_bi (by decide)) (show P_aw _ _ _ 3 [P_z h] [P_z 100, P_z h] _ _ from ?_)
      refine P_aw_icf P_i174_3 ⟨by omega, by omega⟩ ⟨by decide, by decide⟩ (P_ci_ltf (by omega)) (show P_aw _ _ _ 6 [P_z h] [] _ _ from ?_)
      refine P_aw_op (L' := [P_z h]) (st' := [P_z h]) P_i174_6 rfl (show P_aw _ _ _ 7 [P_z h] [P_z h] _ _ from ?_)
      refine P_aw_op (L' := [P_z h]) (st' := [P_z 199, P_z h]) P_i174_7 (P_o_si (by decide)) (show P_aw _ _ _ 10 [P_z h] [P_z 199, P_z h] _ _ from ?_)
      refine P_aw_icf P_i174_10 ⟨by omega, by omega⟩ ⟨by decide, by decide⟩ (P_ci_gtf (by omega)) (show P_aw _ _ _ 13 [P_z h] [] _ _ from ?_)
      refine P_aw_op (L' := [P_z h]) (st' := [P_z 1]) P_i174_13 rfl (show P_aw _ _ _ 14 [P_z h] [P_z 1] _ _ from ?_)
      refine P_aw_goto P_i174_14 (show P_aw _ _ _ 18 [P_z h] [P_z 1] _ _ from ?_)
      refine P_aw_end P_i174_18 rfl rfl (fun _ => rfl) rfl ?_
      show P_aw _ _ _ 16 [.ref (w.2.2 29), P_z h] [P_z 1] _ _
      refine P_aw_izf P_i111_16 ⟨by decide, by decide⟩ (P_ci_eqf (by omega)) (show P_aw _ _ _ 19 [.ref (w.2.2 29), P_z h] [] _ _ from ?_)
      refine P_aw_op (L' := [.ref (w.2.2 29), P_z h]) (st' := [P_z 1]) P_i111_19 rfl (show P_aw _ _ _ 20 [.ref (w.2.2 29), P_z h] [P_z 1] _ _ from ?_)
      refine P_aw_goto P_i111_20 (show P_aw _ _ _ 24 [.ref (w.2.2 29), P_z h] [P_z 1] _ _ from ?_)
      refine P_aw_end P_i111_24 rfl rfl (fun _ => rfl) rfl ?_
      show P_aw _ _ _ 24 [.ref (w.2.2 29), P_z i] [P_z 1] _ _
      refine P_aw_izf P_i100_24 ⟨by decide, by decide⟩ (P_ci_eqf (by omega)) (show P_aw _ _ _ 27 [.ref (w.2.2 29), P_z i] [] _ _ from ?_)
      refine P_aw_op (L' := [.ref (w.2.2 29), P_z i]) (st' := [.ref (w.2.2 29)]) P_i100_27 rfl (show P_aw _ _ _ 28 [.ref (w.2.2 29), P_z i] [.ref (w.2.2 29)] _ _ from ?_)
      refine P_aw_call P_i100_28 rfl rfl (fun _ => rfl) rfl rfl rfl rfl (y2 := 101) (as := [.ref (w.2.2 29)]) (r0 := []) (P_inv_v (hw.2.1 29 (by decide)) (hw.s rfl) rfl rfl) (Nat.le_of_ble_eq_true rfl) (by decide) rfl (Nat.le_of_ble_eq_true rfl) (s_ri (B := A_its ki ci n (i + 1) ++ 1 :: B) hw hps hln (by rw [e3] at hp; exact ⟨hp.1, by omega, hp.2.2⟩) (by omega) ht (hok i (by omega) (by omega)) (fun σ2 k1 k2 => ?_))
      show P_aw _ _ _ 31 [.ref (w.2.2 29), P_z i] [P_z 1] _ _
      refine P_aw_izt P_i100_31 ⟨by decide, by decide⟩ (P_ci_net (by omega)) (show P_aw _ _ _ 36 [.ref (w.2.2 29), P_z i] [] _ _ from ?_)
      refine P_aw_op (L' := [.ref (w.2.2 29), P_z (i + 1)]) (st' := []) P_i100_36 (P_o_iinc rfl) (show P_aw _ _ _ 39 [.ref (w.2.2 29), P_z (i + 1)] [] _ _ from ?_)
      refine P_aw_goto P_i100_39 (show P_aw _ _ _ 11 [.ref (w.2.2 29), P_z (i + 1)] [] _ _ from ?_)
      refine ih σ2 (p + ((A_itk (ki i) (ci i)).length : Int)) (i + 1) B (by omega) (by omega) k1 ((k2 29 4 (by omega) (by omega) (by omega) (by omega)).trans hln) (by rw [e3] at hp; omega) (A_tkn_cg (fun b => k2 30 b (by omega) (by omega) (by omega) (by omega)) (A_tkn_a ht).2) (fun σ' g1 g2 => q σ' ?_ (A_rfr_tr k2 g2)); simp only [A_its, List.length_append]; rw [show p + (((A_itk (ki i) (ci i)).length + (A_its ki ci n (i + 1)).length : Nat) : Int) + 1 = p + ((A_itk (ki i) (ci i)).length : Int) + ((A_its ki ci n (i + 1)).length : Int) + 1 by omega, show i + ((n + 1 : Nat) : Int) = i + 1 + (n : Int) by omega]; exact g1

theorem s_rits {w : P_Lw} (hw : P_Cw w) {d : Nat} {Q : P_R → P_A → Prop} {σ : P_A} {p ln : Int} {ki ci : Int → Int} {ns : Int} {tb : Int → Nat} {cs : List A_cd} {gp oi lm : Int} {n : Nat} {B : List Int} (hn : n ≤ 3) (hok : ∀ j, 0 ≤ j → j < (n : Int) + 1 → A_iok (ki j) (ci j)) (hps : A_PS σ p 0 ki ci ns tb cs gp oi lm) (hln : σ 29 4 = ln) (hp : 0 ≤ p ∧ p + ((A_its ki ci (n + 1) 0 ++ 1 :: B).length : Int) ≤ ln ∧ ln ≤ 40) (ht : A_tkn σ p (A_its ki ci (n + 1) 0 ++ 1 :: B)) (q : ∀ σ', A_PS σ' (p + ((A_its ki ci (n + 1) 0).length : Int) + 1) ((n : Int) + 1) ki ci ns tb cs gp oi lm → A_rfr σ σ' → Q (.inl (some (P_z 1))) σ') : P_aw w (d + 7) 100 0 [.ref (w.2.2 29), P_un] [] σ Q := by
  have e4 : A_its ki ci (n + 1) 0 ++ 1 :: B = A_itk (ki 0) (ci 0) ++ (A_its ki ci n 1 ++ 1 :: B) := by
    show (A_itk (ki 0) (ci 0) ++ A_its ki ci n (0 + 1)) ++ _ = _
    rw [List.append_assoc]
    rfl
  rw [e4] at hp ht
  refine P_aw_op (L' := [.ref (w.2.2 29), P_un]) (st' := [.ref (w.2.2 29)]) P_i100_0 rfl (show P_aw _ _ _ 1 [.ref (w.2.2 29), P_un] [.ref (w.2.2 29)] _ _ from ?_)
  refine P_aw_call P_i100_1 rfl rfl (fun _ => rfl) rfl rfl rfl rfl (y2 := 101) (as := [.ref (w.2.2 29)]) (r0 := []) (P_inv_v (hw.2.1 29 (by decide)) (hw.s rfl) rfl rfl) (Nat.le_of_ble_eq_true rfl) (by decide) rfl (Nat.le_of_ble_eq_true rfl) (s_ri (B := A_its ki ci n 1 ++ 1 :: B) hw hps hln hp (by omega) ht (hok 0 (by omega) (by omega)) (fun σ2 k1 k2 => ?_))
  show P_aw _ _ _ 4 [.ref (w.2.2 29), P_un] [P_z 1] _ _
  refine P_aw_izt P_i100_4 ⟨by decide, by decide⟩ (P_ci_net (by omega)) (show P_aw _ _ _ 9 [.ref (w.2.2 29), P_un] [] _ _ from ?_)
  refine P_aw_op (L' := [.ref (w.2.2 29), P_un]) (st' := [P_z 1]) P_i100_9 rfl (show P_aw _ _ _ 10 [.ref (w.2.2 29), P_un] [P_z 1] _ _ from ?_)
  refine P_aw_op (L' := [.ref (w.2.2 29), P_z 1]) (st' := []) P_i100_10 rfl (show P_aw _ _ _ 11 [.ref (w.2.2 29), P_z 1] [] _ _ from ?_)
  refine s_ritl (m := (n : Int) + 1) hw (by omega) hok n σ2 _ 1 B (by omega) (by omega) k1 ((k2 29 4 (by omega) (by omega) (by omega) (by omega)).trans hln) (by rw [List.length_append] at hp; omega) (A_tkn_cg (fun b => k2 30 b (by omega) (by omega) (by omega) (by omega)) (A_tkn_a ht).2) (fun σ' g1 g2 => q σ' ?_ (A_rfr_tr k2 g2))
  simp only [A_its, List.length_append]; rw [show p + (((A_itk (ki 0) (ci 0)).length + (A_its ki ci n (0 + 1)).length : Nat) : Int) + 1 = p + ((A_itk (ki 0) (ci 0)).length : Int) + ((A_its ki ci n (0 + 1)).length : Int) + 1 by omega, show (n : Int) + 1 = 1 + (n : Int) by omega]; exact g1
