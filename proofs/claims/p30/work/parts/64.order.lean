/-! the class, written by wip/c1.py: 64.order -/
/-- the levels of the first n conditions -/
def A_lev (σ : P_A) (n : Int) (g : Int → Int) : P_A := fun a b => if 15 ≤ a ∧ (a : Int) < 15 + n ∧ b = 3 then g ((a : Int) - 15) else σ a b
theorem A_lev_ne {σ : P_A} {n : Int} {g : Int → Int} {a b : Nat} (h : ¬ (15 ≤ a ∧ (a : Int) < 15 + n ∧ b = 3)) : A_lev σ n g a b = σ a b := if_neg h
theorem A_lev_at {σ : P_A} {n : Int} {g : Int → Int} {i : Int} (h0 : 0 ≤ i) (h : i < n) : A_lev σ n g (15 + i.toNat) 3 = g i := by
  unfold A_lev
  rw [if_pos ⟨by omega, by omega, rfl⟩]
  congr 1
  omega
theorem A_lev_0 {σ : P_A} {g : Int → Int} : A_lev σ 0 g = σ := by
  funext a b
  exact if_neg (fun q => by omega)
theorem A_lev_step {σ : P_A} {i v : Int} {g : Int → Int} (h0 : 0 ≤ i) (hv : v = g i) : P_u2 (A_lev σ i g) (15 + i.toNat) 3 v = A_lev σ (i + 1) g := by
  subst hv
  funext a b
  unfold P_u2 A_lev
  by_cases e : a = 15 + i.toNat ∧ b = 3
  · rw [if_pos e, if_pos (c := 15 ≤ a ∧ (a : Int) < 15 + (i + 1) ∧ b = 3) ⟨by omega, by omega, e.2⟩]
    congr 1
    omega
  · rw [if_neg e]
    by_cases e3 : 15 ≤ a ∧ (a : Int) < 15 + i ∧ b = 3
    · rw [if_pos e3, if_pos (c := 15 ≤ a ∧ (a : Int) < 15 + (i + 1) ∧ b = 3) ⟨e3.1, by omega, e3.2.2⟩]
    · rw [if_neg e3, if_neg (fun q => e3 (by omega))]
theorem A_lev_stay {σ : P_A} {i : Int} {g : Int → Int} (h0 : 0 ≤ i) (hv : σ (15 + i.toNat) 3 = g i) : A_lev σ i g = A_lev σ (i + 1) g := by
  funext a b
  unfold A_lev
  by_cases e3 : 15 ≤ a ∧ (a : Int) < 15 + i ∧ b = 3
  · rw [if_pos e3, if_pos (c := 15 ≤ a ∧ (a : Int) < 15 + (i + 1) ∧ b = 3) ⟨e3.1, by omega, e3.2.2⟩]
  · rw [if_neg e3]
    by_cases e : a = 15 + i.toNat ∧ b = 3
    · rw [if_pos (c := 15 ≤ a ∧ (a : Int) < 15 + (i + 1) ∧ b = 3) ⟨by omega, by omega, e.2⟩, e.1, e.2, hv]
      congr 1
      omega
    · rw [if_neg (fun q => e (by omega))]
theorem A_V_cg {w : P_Lw} {σ σ' : P_A} {ns : Int} {tb : Int → Nat} {rw : Int → Int} {vr : Int → Int → Int} (h : ∀ a b, a = 6 ∨ a = 9 ∨ 50 ≤ a → σ' a b = σ a b) (hA : A_V w σ ns tb rw vr) : A_V w σ' ns tb rw vr := by
  refine ⟨(h 6 5 (Or.inl rfl)).trans hA.1, hA.2.1, fun s h0 h1 => ?_⟩
  obtain ⟨g1, g2, g3, g4, g5⟩ := hA.2.2 s h0 h1
  have hk := g2.1
  exact ⟨(h 9 _ (Or.inr (Or.inl rfl))).trans g1, g2, (h _ _ (Or.inr (Or.inr (by omega)))).trans g3, g4, fun c c0 c1 => ⟨(h _ _ (Or.inr (Or.inr (by omega)))).trans (g5 c c0 c1).1, (g5 c c0 c1).2⟩⟩
theorem A_O_cg {σ σ' : P_A} {ns : Int} {od : Int → Int} (h : ∀ b, σ' 28 b = σ 28 b) (hO : A_O σ ns od) : A_O σ' ns od := fun j h0 h1 => ⟨(h _).trans (hO j h0 h1).1, (hO j h0 h1).2⟩
theorem A_C_cg {σ σ' : P_A} {ns sz : Int} {cL cS cR cV cV' : Int → Int} (h4 : σ' 13 4 = σ 13 4) (h : ∀ a b, 15 ≤ a → a < 27 → b < 3 → σ' a b = σ a b) (hV : ∀ i, 0 ≤ i → i < sz → σ' (15 + i.toNat) 3 = cV' i ∧ 0 ≤ cV' i ∧ cV' i ≤ 2) (hC : A_C σ ns sz cL cS cR cV) : A_C σ' ns sz cL cS cR cV' := by
  have hz := hC.2.1
  refine ⟨h4.trans hC.1, hC.2.1, fun i h0 h1 => ?_⟩
  obtain ⟨⟨g1, g2, g3, g4⟩, g5, g6, g7, g8⟩ := hC.2.2 i h0 h1
  have e := hV i h0 h1
  exact ⟨⟨(h _ _ (by omega) (by omega) (by omega)).trans g1, (h _ _ (by omega) (by omega) (by omega)).trans g2, (h _ _ (by omega) (by omega) (by omega)).trans g3, e.1⟩, g5, g6, g7, e.2⟩

theorem s_bil {w : P_Lw} (hw : P_Cw w) {d : Nat} {Q : P_R → P_A → Prop} {σ : P_A} {ns : Int} (hns : 1 ≤ ns ∧ ns ≤ 3) {od : Int → Int} (hO : A_O σ ns od) {sz : Int} {cL cS cR cV : Int → Int} (hC : A_C σ ns sz cL cS cR cV) : ∀ (n : Nat) (i : Int), (0 ≤ i ∧ i ≤ sz) → (sz = i + (n : Nat)) → Q (.inl none) (A_lev σ sz (fun i => A_low od (cL i) (cR i))) → P_aw w (d + 2) 82 34 [.ref (w.2.2 13), P_un, P_z i] [] (A_lev σ i (fun i => A_low od (cL i) (cR i))) Q := by
  have hsz := hC.2.1
  intro n
  induction n with
  | zero =>
    intro i hv0 hv1 q
    refine P_aw_op (L' := [.ref (w.2.2 13), P_un, P_z i]) (st' := [P_z i]) P_i82_34 rfl (show P_aw _ _ _ 35 [.ref (w.2.2 13), P_un, P_z i] [P_z i] _ _ from ?_)
    refine P_aw_op (L' := [.ref (w.2.2 13), P_un, P_z i]) (st' := [.ref (w.2.2 13), P_z i]) P_i82_35 rfl (show P_aw _ _ _ 36 [.ref (w.2.2 13), P_un, P_z i] [.ref (w.2.2 13), P_z i] _ _ from ?_)
    have hg1 := hC.2.1
    refine P_aw_getv P_i82_36 (hw.2.1 13 (by decide)) (hw.s rfl) rfl rfl ((A_lev_ne (by omega)).trans (hC.1)) (show P_aw _ _ _ 39 [.ref (w.2.2 13), P_un, P_z i] [P_z sz, P_z i] _ _ from ?_)
    refine P_aw_ict P_i82_39 ⟨by omega, by omega⟩ ⟨by omega, by omega⟩ (P_ci_get (by omega)) (show P_aw _ _ _ 65 [.ref (w.2.2 13), P_un, P_z i] [] _ _ from ?_)
    refine P_aw_end P_i82_65 rfl rfl (fun _ => rfl) rfl ?_
    have e : i = sz := (by omega); subst e; exact q
  | succ n ih =>
    intro i hv0 hv1 q
    refine P_aw_op (L' := [.ref (w.2.2 13), P_un, P_z i]) (st' := [P_z i]) P_i82_34 rfl (show P_aw _ _ _ 35 [.ref (w.2.2 13), P_un, P_z i] [P_z i] _ _ from ?_)
    refine P_aw_op (L' := [.ref (w.2.2 13), P_un, P_z i]) (st' := [.ref (w.2.2 13), P_z i]) P_i82_35 rfl (show P_aw _ _ _ 36 [.ref (w.2.2 13), P_un, P_z i] [.ref (w.2.2 13), P_z i] _ _ from ?_)
    have hg1 := hC.2.1
    refine P_aw_getv P_i82_36 (hw.2.1 13 (by decide)) (hw.s rfl) rfl rfl ((A_lev_ne (by omega)).trans (hC.1)) (show P_aw _ _ _ 39 [.ref (w.2.2 13), P_un, P_z i] [P_z sz, P_z i] _ _ from ?_)
    refine P_aw_icf P_i82_39 ⟨by omega, by omega⟩ ⟨by omega, by omega⟩ (P_ci_gef (by omega)) (show P_aw _ _ _ 42 [.ref (w.2.2 13), P_un, P_z i] [] _ _ from ?_)
    refine P_aw_op (L' := [.ref (w.2.2 13), P_un, P_z i]) (st' := [.ref (w.2.2 13)]) P_i82_42 rfl (show P_aw _ _ _ 43 [.ref (w.2.2 13), P_un, P_z i] [.ref (w.2.2 13)] _ _ from ?_)
    refine P_aw_op (L' := [.ref (w.2.2 13), P_un, P_z i]) (st' := [P_z i, .ref (w.2.2 13)]) P_i82_43 rfl (show P_aw _ _ _ 44 [.ref (w.2.2 13), P_un, P_z i] [P_z i, .ref (w.2.2 13)] _ _ from ?_)
    refine P_aw_call P_i82_44 rfl rfl (fun _ => rfl) rfl rfl rfl rfl (y2 := 59) (as := [.ref (w.2.2 13), P_z i]) (r0 := []) (P_inv_v (hw.2.1 13 (by decide)) (hw.s rfl) rfl rfl) (Nat.le_of_ble_eq_true rfl) (by decide) rfl (Nat.le_of_ble_eq_true rfl) (show P_aw _ _ _ 0 [.ref (w.2.2 13), P_z i, P_un] [] _ _ from ?_)
    refine P_aw_op (L' := [.ref (w.2.2 13), P_z i, P_un]) (st' := [P_z i]) P_i59_0 rfl (show P_aw _ _ _ 1 [.ref (w.2.2 13), P_z i, P_un] [P_z i] _ _ from ?_)
    refine P_aw_izf P_i59_1 ⟨by omega, by omega⟩ (P_ci_ltf (by omega)) (show P_aw _ _ _ 4 [.ref (w.2.2 13), P_z i, P_un] [] _ _ from ?_)
    refine P_aw_op (L' := [.ref (w.2.2 13), P_z i, P_un]) (st' := [P_z i]) P_i59_4 rfl (show P_aw _ _ _ 5 [.ref (w.2.2 13), P_z i, P_un] [P_z i] _ _ from ?_)
    refine P_aw_op (L' := [.ref (w.2.2 13), P_z i, P_un]) (st' := [.ref (w.2.2 13), P_z i]) P_i59_5 rfl (show P_aw _ _ _ 6 [.ref (w.2.2 13), P_z i, P_un] [.ref (w.2.2 13), P_z i] _ _ from ?_)
    refine P_aw_getR P_i59_6 (hw.2.1 13 (by decide)) (hw.s rfl) rfl rfl (show P_aw _ _ _ 9 [.ref (w.2.2 13), P_z i, P_un] [.ref (w.2.2 14), P_z i] _ _ from ?_)
    refine P_aw_clen P_i59_9 (hw.2.1 14 (by decide)) (hw.s rfl) rfl (show P_aw _ _ _ 10 [.ref (w.2.2 13), P_z i, P_un] [P_z 12, P_z i] _ _ from ?_)
    refine P_aw_ict P_i59_10 ⟨by omega, by omega⟩ ⟨by decide, by decide⟩ (P_ci_ltt (by omega)) (show P_aw _ _ _ 18 [.ref (w.2.2 13), P_z i, P_un] [] _ _ from ?_)
    refine P_aw_op (L' := [.ref (w.2.2 13), P_z i, P_un]) (st' := [.ref (w.2.2 13)]) P_i59_18 rfl (show P_aw _ _ _ 19 [.ref (w.2.2 13), P_z i, P_un] [.ref (w.2.2 13)] _ _ from ?_)
    refine P_aw_getR P_i59_19 (hw.2.1 13 (by decide)) (hw.s rfl) rfl rfl (show P_aw _ _ _ 22 [.ref (w.2.2 13), P_z i, P_un] [.ref (w.2.2 14)] _ _ from ?_)
    refine P_aw_op (L' := [.ref (w.2.2 13), P_z i, P_un]) (st' := [P_z i, .ref (w.2.2 14)]) P_i59_22 rfl (show P_aw _ _ _ 23 [.ref (w.2.2 13), P_z i, P_un] [P_z i, .ref (w.2.2 14)] _ _ from ?_)
    refine P_aw_cld P_i59_23 (hw.2.1 14 (by decide)) (hw.s rfl) (by decide) (by omega) (P_c12 (by omega)) (by decide) (show P_aw _ _ _ 24 [.ref (w.2.2 13), P_z i, P_un] [.ref (w.2.2 (15 + i.toNat))] _ _ from ?_)
    refine P_aw_op (L' := [.ref (w.2.2 13), P_z i, .ref (w.2.2 (15 + i.toNat))]) (st' := []) P_i59_24 rfl (show P_aw _ _ _ 25 [.ref (w.2.2 13), P_z i, .ref (w.2.2 (15 + i.toNat))] [] _ _ from ?_)
    refine P_aw_op (L' := [.ref (w.2.2 13), P_z i, .ref (w.2.2 (15 + i.toNat))]) (st' := [.ref (w.2.2 (15 + i.toNat))]) P_i59_25 rfl (show P_aw _ _ _ 26 [.ref (w.2.2 13), P_z i, .ref (w.2.2 (15 + i.toNat))] [.ref (w.2.2 (15 + i.toNat))] _ _ from ?_)
    refine P_aw_brt P_i59_26 rfl (show P_aw _ _ _ 36 [.ref (w.2.2 13), P_z i, .ref (w.2.2 (15 + i.toNat))] [] _ _ from ?_)
    refine P_aw_op (L' := [.ref (w.2.2 13), P_z i, .ref (w.2.2 (15 + i.toNat))]) (st' := [.ref (w.2.2 (15 + i.toNat))]) P_i59_36 rfl (show P_aw _ _ _ 37 [.ref (w.2.2 13), P_z i, .ref (w.2.2 (15 + i.toNat))] [.ref (w.2.2 (15 + i.toNat))] _ _ from ?_)
    refine P_aw_end P_i59_37 rfl rfl (fun _ => rfl) rfl ?_
    show P_aw _ _ _ 47 [.ref (w.2.2 13), P_un, P_z i] [.ref (w.2.2 (15 + i.toNat))] _ _
    refine P_aw_op (L' := [.ref (w.2.2 13), P_un, P_z i]) (st' := [.ref (w.2.2 13), .ref (w.2.2 (15 + i.toNat))]) P_i82_47 rfl (show P_aw _ _ _ 48 [.ref (w.2.2 13), P_un, P_z i] [.ref (w.2.2 13), .ref (w.2.2 (15 + i.toNat))] _ _ from ?_)
    refine P_aw_op (L' := [.ref (w.2.2 13), P_un, P_z i]) (st' := [.ref (w.2.2 13), .ref (w.2.2 13), .ref (w.2.2 (15 + i.toNat))]) P_i82_48 rfl (show P_aw _ _ _ 49 [.ref (w.2.2 13), P_un, P_z i] [.ref (w.2.2 13), .ref (w.2.2 13), .ref (w.2.2 (15 + i.toNat))] _ _ from ?_)
    refine P_aw_op (L' := [.ref (w.2.2 13), P_un, P_z i]) (st' := [P_z i, .ref (w.2.2 13), .ref (w.2.2 13), .ref (w.2.2 (15 + i.toNat))]) P_i82_49 rfl (show P_aw _ _ _ 50 [.ref (w.2.2 13), P_un, P_z i] [P_z i, .ref (w.2.2 13), .ref (w.2.2 13), .ref (w.2.2 (15 + i.toNat))] _ _ from ?_)
    refine P_aw_call P_i82_50 rfl rfl (fun _ => rfl) rfl rfl rfl rfl (y2 := 59) (as := [.ref (w.2.2 13), P_z i]) (r0 := [.ref (w.2.2 13), .ref (w.2.2 (15 + i.toNat))]) (P_inv_v (hw.2.1 13 (by decide)) (hw.s rfl) rfl rfl) (Nat.le_of_ble_eq_true rfl) (by decide) rfl (Nat.le_of_ble_eq_true rfl) (show P_aw _ _ _ 0 [.ref (w.2.2 13), P_z i, P_un] [] _ _ from ?_)
    refine P_aw_op (L' := [.ref (w.2.2 13), P_z i, P_un]) (st' := [P_z i]) P_i59_0 rfl (show P_aw _ _ _ 1 [.ref (w.2.2 13), P_z i, P_un] [P_z i] _ _ from ?_)
    refine P_aw_izf P_i59_1 ⟨by omega, by omega⟩ (P_ci_ltf (by omega)) (show P_aw _ _ _ 4 [.ref (w.2.2 13), P_z i, P_un] [] _ _ from ?_)
    refine P_aw_op (L' := [.ref (w.2.2 13), P_z i, P_un]) (st' := [P_z i]) P_i59_4 rfl (show P_aw _ _ _ 5 [.ref (w.2.2 13), P_z i, P_un] [P_z i] _ _ from ?_)
    refine P_aw_op (L' := [.ref (w.2.2 13), P_z i, P_un]) (st' := [.ref (w.2.2 13), P_z i]) P_i59_5 rfl (show P_aw _ _ _ 6 [.ref (w.2.2 13), P_z i, P_un] [.ref (w.2.2 13), P_z i] _ _ from ?_)
    refine P_aw_getR P_i59_6 (hw.2.1 13 (by decide)) (hw.s rfl) rfl rfl (show P_aw _ _ _ 9 [.ref (w.2.2 13), P_z i, P_un] [.ref (w.2.2 14), P_z i] _ _ from ?_)
    refine P_aw_clen P_i59_9 (hw.2.1 14 (by decide)) (hw.s rfl) rfl (show P_aw _ _ _ 10 [.ref (w.2.2 13), P_z i, P_un] [P_z 12, P_z i] _ _ from ?_)
    refine P_aw_ict P_i59_10 ⟨by omega, by omega⟩ ⟨by decide, by decide⟩ (P_ci_ltt (by omega)) (show P_aw _ _ _ 18 [.ref (w.2.2 13), P_z i, P_un] [] _ _ from ?_)
    refine P_aw_op (L' := [.ref (w.2.2 13), P_z i, P_un]) (st' := [.ref (w.2.2 13)]) P_i59_18 rfl (show P_aw _ _ _ 19 [.ref (w.2.2 13), P_z i, P_un] [.ref (w.2.2 13)] _ _ from ?_)
    refine P_aw_getR P_i59_19 (hw.2.1 13 (by decide)) (hw.s rfl) rfl rfl (show P_aw _ _ _ 22 [.ref (w.2.2 13), P_z i, P_un] [.ref (w.2.2 14)] _ _ from ?_)
    refine P_aw_op (L' := [.ref (w.2.2 13), P_z i, P_un]) (st' := [P_z i, .ref (w.2.2 14)]) P_i59_22 rfl (show P_aw _ _ _ 23 [.ref (w.2.2 13), P_z i, P_un] [P_z i, .ref (w.2.2 14)] _ _ from ?_)
    refine P_aw_cld P_i59_23 (hw.2.1 14 (by decide)) (hw.s rfl) (by decide) (by omega) (P_c12 (by omega)) (by decide) (show P_aw _ _ _ 24 [.ref (w.2.2 13), P_z i, P_un] [.ref (w.2.2 (15 + i.toNat))] _ _ from ?_)
    refine P_aw_op (L' := [.ref (w.2.2 13), P_z i, .ref (w.2.2 (15 + i.toNat))]) (st' := []) P_i59_24 rfl (show P_aw _ _ _ 25 [.ref (w.2.2 13), P_z i, .ref (w.2.2 (15 + i.toNat))] [] _ _ from ?_)
    refine P_aw_op (L' := [.ref (w.2.2 13), P_z i, .ref (w.2.2 (15 + i.toNat))]) (st' := [.ref (w.2.2 (15 + i.toNat))]) P_i59_25 rfl (show P_aw _ _ _ 26 [.ref (w.2.2 13), P_z i, .ref (w.2.2 (15 + i.toNat))] [.ref (w.2.2 (15 + i.toNat))] _ _ from ?_)
    refine P_aw_brt P_i59_26 rfl (show P_aw _ _ _ 36 [.ref (w.2.2 13), P_z i, .ref (w.2.2 (15 + i.toNat))] [] _ _ from ?_)
    refine P_aw_op (L' := [.ref (w.2.2 13), P_z i, .ref (w.2.2 (15 + i.toNat))]) (st' := [.ref (w.2.2 (15 + i.toNat))]) P_i59_36 rfl (show P_aw _ _ _ 37 [.ref (w.2.2 13), P_z i, .ref (w.2.2 (15 + i.toNat))] [.ref (w.2.2 (15 + i.toNat))] _ _ from ?_)
    refine P_aw_end P_i59_37 rfl rfl (fun _ => rfl) rfl ?_
    show P_aw _ _ _ 53 [.ref (w.2.2 13), P_un, P_z i] [.ref (w.2.2 (15 + i.toNat)), .ref (w.2.2 13), .ref (w.2.2 (15 + i.toNat))] _ _
    have hg2 := id (hC.2.2 i (by omega) (by omega)).2.1
    have hg3 := A_cR (hC.2.2 i (by omega) (by omega)).2.2.2.1
    have hp4 := A_low_rg (od := od) (l := (cL i)) (r := (cR i))
    refine P_aw_call P_i82_53 rfl rfl (fun _ => rfl) rfl rfl rfl rfl (y2 := 63) (as := [.ref (w.2.2 13), .ref (w.2.2 (15 + i.toNat))]) (r0 := [.ref (w.2.2 (15 + i.toNat))]) (P_inv_v (hw.2.1 13 (by decide)) (hw.s rfl) rfl rfl) (Nat.le_of_ble_eq_true rfl) (by decide) rfl (Nat.le_of_ble_eq_true rfl) (s_low hw (A_O_cg (fun b => A_lev_ne (by omega)) hO) (hw.c (by omega)) ((A_lev_ne (by omega)).trans ((hC.2.2 i (by omega) (by omega)).1.1)) ((A_lev_ne (by omega)).trans ((hC.2.2 i (by omega) (by omega)).1.2.2.1)) (hC.2.2 i (by omega) (by omega)).2.1 (hC.2.2 i (by omega) (by omega)).2.2.2.1 ?_)
    show P_aw _ _ _ 56 [.ref (w.2.2 13), P_un, P_z i] [P_z (A_low od (cL i) (cR i)), .ref (w.2.2 (15 + i.toNat))] _ _
    refine P_aw_put P_i82_56 (hw.c (by omega)).2 (hw.c (by omega)).1 rfl rfl rfl (show P_aw _ _ _ 59 [.ref (w.2.2 13), P_un, P_z i] [] _ _ from ?_)
    refine P_aw_op (L' := [.ref (w.2.2 13), P_un, P_z (i + 1)]) (st' := []) P_i82_59 (P_o_iinc rfl) (show P_aw _ _ _ 62 [.ref (w.2.2 13), P_un, P_z (i + 1)] [] _ _ from ?_)
    refine P_aw_goto P_i82_62 (show P_aw _ _ _ 34 [.ref (w.2.2 13), P_un, P_z (i + 1)] [] _ _ from ?_)
    refine P_aws (A_lev_step (by omega) rfl) ?_; exact ih (i + 1) (by omega) (by omega) q

/-- the orders, by their places in the row of orders -/
def A_od (s j : Int) : Int := ([0, 1, 2, 0, 2, 1, 1, 0, 2, 1, 2, 0, 2, 0, 1, 2, 1, 0] : List Int).getD (s + j).toNat 0
def A_o3 (σ : P_A) (a b c : Int) : P_A := P_u2 (P_u2 (P_u2 σ 28 0 a) 28 1 b) 28 2 c
theorem A_o3_ne {σ : P_A} {a b c : Int} {k f : Nat} (h : k ≠ 28) : A_o3 σ a b c k f = σ k f := by
  unfold A_o3
  rw [P_u2_ne (fun q => h q.1), P_u2_ne (fun q => h q.1), P_u2_ne (fun q => h q.1)]
theorem A_o3_O {σ : P_A} {ns : Int} {od : Int → Int} (h : ∀ j, 0 ≤ j → j < 3 → 0 ≤ od j ∧ od j ≤ 2 ∧ (j < ns → od j < ns)) : A_O (A_o3 σ (od 0) (od 1) (od 2)) ns od := by
  intro j h0 h1
  refine ⟨?_, h j h0 h1⟩
  have hj : j = 0 ∨ j = 1 ∨ j = 2 := by omega
  rcases hj with rfl | rfl | rfl <;> rfl
/-- an order and the lows by it -/
def A_bi (σ : P_A) (s sz : Int) (cL cR : Int → Int) : P_A := A_lev (A_o3 σ (A_od s 0) (A_od s 1) (A_od s 2)) sz (fun i => A_low (A_od s) (cL i) (cR i))
theorem A_bi_ne {σ : P_A} {s sz : Int} {cL cR : Int → Int} {k f : Nat} (h : k ≠ 28) (h2 : ¬ (15 ≤ k ∧ (k : Int) < 15 + sz ∧ f = 3)) : A_bi σ s sz cL cR k f = σ k f := by
  unfold A_bi
  rw [A_lev_ne h2, A_o3_ne h]
theorem A_bi_bi {σ : P_A} {s s' sz : Int} {cL cR : Int → Int} : A_bi (A_bi σ s' sz cL cR) s sz cL cR = A_bi σ s sz cL cR := by
  funext a b
  unfold A_bi A_lev A_o3 P_u2
  by_cases e : 15 ≤ a ∧ (a : Int) < 15 + sz ∧ b = 3
  · rw [if_pos e, if_pos e]
  · by_cases h2 : a = 28 ∧ b = 2
    · simp only [if_neg e, if_pos h2]
    · by_cases h1 : a = 28 ∧ b = 1
      · simp only [if_neg e, if_neg h2, if_pos h1]
      · by_cases h0 : a = 28 ∧ b = 0
        · simp only [if_neg e, if_neg h2, if_neg h1, if_pos h0]
        · simp only [if_neg e, if_neg h2, if_neg h1, if_neg h0]
/-- the orders that ns seats can have -/
def A_isO (ns s : Int) : Prop := (s = 0 ∨ ns = 2 ∧ s = 6 ∨ ns = 3 ∧ (s = 3 ∨ s = 6 ∨ s = 9 ∨ s = 12 ∨ s = 15))
theorem A_isO_od {ns s : Int} (h : A_isO ns s) (hn : 1 ≤ ns ∧ ns ≤ 3) : ∀ j, 0 ≤ j → j < 3 → 0 ≤ A_od s j ∧ A_od s j ≤ 2 ∧ (j < ns → A_od s j < ns) := by
  intro j h0 h1
  have hj : j = 0 ∨ j = 1 ∨ j = 2 := by omega
  have hnn : ns = 1 ∨ ns = 2 ∨ ns = 3 := by omega
  unfold A_isO at h
  have hs : s = 0 ∨ s = 3 ∨ s = 6 ∨ s = 9 ∨ s = 12 ∨ s = 15 := by omega
  rcases hj with rfl | rfl | rfl <;> rcases hnn with rfl | rfl | rfl <;> rcases hs with rfl | rfl | rfl | rfl | rfl | rfl <;> first | (exfalso; omega) | (refine ⟨by decide, by decide, fun _ => by first | decide | omega⟩)
theorem A_C_bi {σ : P_A} {ns s sz : Int} {cL cS cR cV : Int → Int} (hC : A_C σ ns sz cL cS cR cV) : A_C (A_bi σ s sz cL cR) ns sz cL cS cR (fun i => A_low (A_od s) (cL i) (cR i)) :=
  A_C_cg (A_bi_ne (by omega) (by omega)) (fun a b h1 h2 h3 => A_bi_ne (by omega) (by omega)) (fun i h0 h1 => ⟨A_lev_at h0 h1, A_low_rg⟩) hC
theorem A_O_bi {σ : P_A} {ns s sz : Int} {cL cR : Int → Int} (hz : sz ≤ 12) (hs : A_isO ns s) (hn : 1 ≤ ns ∧ ns ≤ 3) : A_O (A_bi σ s sz cL cR) ns (A_od s) := A_O_cg (fun b => A_lev_ne (by omega)) (A_o3_O (A_isO_od hs hn))
theorem A_V_bi {w : P_Lw} {σ : P_A} {ns s sz : Int} {cL cR : Int → Int} {tb : Int → Nat} {rw : Int → Int} {vr : Int → Int → Int} (hz : sz ≤ 12) (hA : A_V w σ ns tb rw vr) : A_V w (A_bi σ s sz cL cR) ns tb rw vr := A_V_cg (fun a b h => A_bi_ne (by omega) (by omega)) hA

theorem s_bi0 {w : P_Lw} (hw : P_Cw w) {d : Nat} {Q : P_R → P_A → Prop} {σ : P_A} {ns : Int} (hns : 1 ≤ ns ∧ ns ≤ 3) {sz : Int} {cL cS cR cV : Int → Int} (hC : A_C σ ns sz cL cS cR cV) (hs : A_isO ns 0) (q : Q (.inl none) (A_bi σ 0 sz cL cR)) : P_aw w (d + 2) 82 0 [.ref (w.2.2 13), P_z 0, P_un] [] σ Q := by
  have hsz := hC.2.1
  refine P_aw_op (L' := [.ref (w.2.2 13), P_z 0, P_un]) (st' := [P_z 0]) P_i82_0 rfl (show P_aw _ _ _ 1 [.ref (w.2.2 13), P_z 0, P_un] [P_z 0] _ _ from ?_)
  refine P_aw_op (L' := [.ref (w.2.2 13), P_z 0, P_z 0]) (st' := []) P_i82_1 rfl (show P_aw _ _ _ 2 [.ref (w.2.2 13), P_z 0, P_z 0] [] _ _ from ?_)
  refine P_aw_op (L' := [.ref (w.2.2 13), P_z 0, P_z 0]) (st' := [P_z 0]) P_i82_2 rfl (show P_aw _ _ _ 3 [.ref (w.2.2 13), P_z 0, P_z 0] [P_z 0] _ _ from ?_)
  refine P_aw_op (L' := [.ref (w.2.2 13), P_z 0, P_z 0]) (st' := [.ref (w.2.2 13), P_z 0]) P_i82_3 rfl (show P_aw _ _ _ 4 [.ref (w.2.2 13), P_z 0, P_z 0] [.ref (w.2.2 13), P_z 0] _ _ from ?_)
  refine P_aw_getR P_i82_4 (hw.2.1 13 (by decide)) (hw.s rfl) rfl rfl (show P_aw _ _ _ 7 [.ref (w.2.2 13), P_z 0, P_z 0] [.ref (w.2.2 28), P_z 0] _ _ from ?_)
  refine P_aw_alen P_i82_7 (hw.2.1 28 (by decide)) (hw.s rfl) (show P_aw _ _ _ 8 [.ref (w.2.2 13), P_z 0, P_z 0] [P_z 3, P_z 0] _ _ from ?_)
  refine P_aw_icf P_i82_8 ⟨by decide, by decide⟩ ⟨by decide, by decide⟩ (P_ci_gef (by omega)) (show P_aw _ _ _ 11 [.ref (w.2.2 13), P_z 0, P_z 0] [] _ _ from ?_)
  refine P_aw_op (L' := [.ref (w.2.2 13), P_z 0, P_z 0]) (st' := [.ref (w.2.2 13)]) P_i82_11 rfl (show P_aw _ _ _ 12 [.ref (w.2.2 13), P_z 0, P_z 0] [.ref (w.2.2 13)] _ _ from ?_)
  refine P_aw_getR P_i82_12 (hw.2.1 13 (by decide)) (hw.s rfl) rfl rfl (show P_aw _ _ _ 15 [.ref (w.2.2 13), P_z 0, P_z 0] [.ref (w.2.2 28)] _ _ from ?_)
  refine P_aw_op (L' := [.ref (w.2.2 13), P_z 0, P_z 0]) (st' := [P_z 0, .ref (w.2.2 28)]) P_i82_15 rfl (show P_aw _ _ _ 16 [.ref (w.2.2 13), P_z 0, P_z 0] [P_z 0, .ref (w.2.2 28)] _ _ from ?_)
  refine P_aw_gst P_i82_16 (show P_aw _ _ _ 19 [.ref (w.2.2 13), P_z 0, P_z 0] [.ref 1, P_z 0, .ref (w.2.2 28)] _ _ from ?_)
  refine P_aw_op (L' := [.ref (w.2.2 13), P_z 0, P_z 0]) (st' := [P_z 0, .ref 1, P_z 0, .ref (w.2.2 28)]) P_i82_19 rfl (show P_aw _ _ _ 20 [.ref (w.2.2 13), P_z 0, P_z 0] [P_z 0, .ref 1, P_z 0, .ref (w.2.2 28)] _ _ from ?_)
  refine P_aw_op (L' := [.ref (w.2.2 13), P_z 0, P_z 0]) (st' := [P_z 0, P_z 0, .ref 1, P_z 0, .ref (w.2.2 28)]) P_i82_20 rfl (show P_aw _ _ _ 21 [.ref (w.2.2 13), P_z 0, P_z 0] [P_z 0, P_z 0, .ref 1, P_z 0, .ref (w.2.2 28)] _ _ from ?_)
  refine P_aw_op (L' := [.ref (w.2.2 13), P_z 0, P_z 0]) (st' := [P_z 0, .ref 1, P_z 0, .ref (w.2.2 28)]) P_i82_21 P_o_iadd (show P_aw _ _ _ 22 [.ref (w.2.2 13), P_z 0, P_z 0] [P_z 0, .ref 1, P_z 0, .ref (w.2.2 28)] _ _ from ?_)
  refine P_aw_call P_i82_22 rfl rfl (fun _ => rfl) rfl rfl rfl rfl (y2 := 178) (as := [.ref 1, P_z 0]) (r0 := [P_z 0, .ref (w.2.2 28)]) (fun _ _ => rfl) (Nat.le_of_ble_eq_true rfl) (by decide) rfl (Nat.le_of_ble_eq_true rfl) (show P_aw _ _ _ 0 [.ref 1, P_z 0] [] _ _ from ?_)
  refine P_aw_op (L' := [.ref 1, P_z 0]) (st' := [P_z 0]) P_i178_0 rfl (show P_aw _ _ _ 1 [.ref 1, P_z 0] [P_z 0] _ _ from ?_)
  refine P_aw_izf P_i178_1 ⟨by decide, by decide⟩ (P_ci_ltf (by omega)) (show P_aw _ _ _ 4 [.ref 1, P_z 0] [] _ _ from ?_)
  refine P_aw_op (L' := [.ref 1, P_z 0]) (st' := [P_z 0]) P_i178_4 rfl (show P_aw _ _ _ 5 [.ref 1, P_z 0] [P_z 0] _ _ from ?_)
  refine P_aw_op (L' := [.ref 1, P_z 0]) (st' := [.ref 1, P_z 0]) P_i178_5 rfl (show P_aw _ _ _ 6 [.ref 1, P_z 0] [.ref 1, P_z 0] _ _ from ?_)
  refine P_aw_olen P_i178_6 (show P_aw _ _ _ 7 [.ref 1, P_z 0] [P_z 18, P_z 0] _ _ from ?_)
  refine P_aw_icf P_i178_7 ⟨by decide, by decide⟩ ⟨by decide, by decide⟩ (P_ci_gef (by omega)) (show P_aw _ _ _ 10 [.ref 1, P_z 0] [] _ _ from ?_)
  refine P_aw_op (L' := [.ref 1, P_z 0]) (st' := [.ref 1]) P_i178_10 rfl (show P_aw _ _ _ 11 [.ref 1, P_z 0] [.ref 1] _ _ from ?_)
  refine P_aw_op (L' := [.ref 1, P_z 0]) (st' := [P_z 0, .ref 1]) P_i178_11 rfl (show P_aw _ _ _ 12 [.ref 1, P_z 0] [P_z 0, .ref 1] _ _ from ?_)
  refine P_aw_oald P_i178_12 (by decide) (by decide) (by decide +kernel) (show P_aw _ _ _ 13 [.ref 1, P_z 0] [P_z 0] _ _ from ?_)
  refine P_aw_goto P_i178_13 (show P_aw _ _ _ 17 [.ref 1, P_z 0] [P_z 0] _ _ from ?_)
  refine P_aw_end P_i178_17 rfl rfl (fun _ => rfl) rfl ?_
  show P_aw _ _ _ 25 [.ref (w.2.2 13), P_z 0, P_z 0] [P_z 0, P_z 0, .ref (w.2.2 28)] _ _
  refine P_aw_ast P_i82_25 (hw.2.1 28 (by decide)) (hw.s rfl) (by omega) (by omega) (by decide) (show P_aw _ _ _ 26 [.ref (w.2.2 13), P_z 0, P_z 0] [] _ _ from ?_)
  refine P_aw_op (L' := [.ref (w.2.2 13), P_z 0, P_z 1]) (st' := []) P_i82_26 (P_o_iincv (x := 0) rfl (by decide)) (show P_aw _ _ _ 29 [.ref (w.2.2 13), P_z 0, P_z 1] [] _ _ from ?_)
  refine P_aw_goto P_i82_29 (show P_aw _ _ _ 2 [.ref (w.2.2 13), P_z 0, P_z 1] [] _ _ from ?_)
  refine P_aw_op (L' := [.ref (w.2.2 13), P_z 0, P_z 1]) (st' := [P_z 1]) P_i82_2 rfl (show P_aw _ _ _ 3 [.ref (w.2.2 13), P_z 0, P_z 1] [P_z 1] _ _ from ?_)
  refine P_aw_op (L' := [.ref (w.2.2 13), P_z 0, P_z 1]) (st' := [.ref (w.2.2 13), P_z 1]) P_i82_3 rfl (show P_aw _ _ _ 4 [.ref (w.2.2 13), P_z 0, P_z 1] [.ref (w.2.2 13), P_z 1] _ _ from ?_)
  refine P_aw_getR P_i82_4 (hw.2.1 13 (by decide)) (hw.s rfl) rfl rfl (show P_aw _ _ _ 7 [.ref (w.2.2 13), P_z 0, P_z 1] [.ref (w.2.2 28), P_z 1] _ _ from ?_)
  refine P_aw_alen P_i82_7 (hw.2.1 28 (by decide)) (hw.s rfl) (show P_aw _ _ _ 8 [.ref (w.2.2 13), P_z 0, P_z 1] [P_z 3, P_z 1] _ _ from ?_)
  refine P_aw_icf P_i82_8 ⟨by decide, by decide⟩ ⟨by decide, by decide⟩ (P_ci_gef (by omega)) (show P_aw _ _ _ 11 [.ref (w.2.2 13), P_z 0, P_z 1] [] _ _ from ?_)
  refine P_aw_op (L' := [.ref (w.2.2 13), P_z 0, P_z 1]) (st' := [.ref (w.2.2 13)]) P_i82_11 rfl (show P_aw _ _ _ 12 [.ref (w.2.2 13), P_z 0, P_z 1] [.ref (w.2.2 13)] _ _ from ?_)
  refine P_aw_getR P_i82_12 (hw.2.1 13 (by decide)) (hw.s rfl) rfl rfl (show P_aw _ _ _ 15 [.ref (w.2.2 13), P_z 0, P_z 1] [.ref (w.2.2 28)] _ _ from ?_)
  refine P_aw_op (L' := [.ref (w.2.2 13), P_z 0, P_z 1]) (st' := [P_z 1, .ref (w.2.2 28)]) P_i82_15 rfl (show P_aw _ _ _ 16 [.ref (w.2.2 13), P_z 0, P_z 1] [P_z 1, .ref (w.2.2 28)] _ _ from ?_)
  refine P_aw_gst P_i82_16 (show P_aw _ _ _ 19 [.ref (w.2.2 13), P_z 0, P_z 1] [.ref 1, P_z 1, .ref (w.2.2 28)] _ _ from ?_)
  refine P_aw_op (L' := [.ref (w.2.2 13), P_z 0, P_z 1]) (st' := [P_z 0, .ref 1, P_z 1, .ref (w.2.2 28)]) P_i82_19 rfl (show P_aw _ _ _ 20 [.ref (w.2.2 13), P_z 0, P_z 1] [P_z 0, .ref 1, P_z 1, .ref (w.2.2 28)] _ _ from ?_)
  refine P_aw_op (L' := [.ref (w.2.2 13), P_z 0, P_z 1]) (st' := [P_z 1, P_z 0, .ref 1, P_z 1, .ref (w.2.2 28)]) P_i82_20 rfl (show P_aw _ _ _ 21 [.ref (w.2.2 13), P_z 0, P_z 1] [P_z 1, P_z 0, .ref 1, P_z 1, .ref (w.2.2 28)] _ _ from ?_)
  refine P_aw_op (L' := [.ref (w.2.2 13), P_z 0, P_z 1]) (st' := [P_z 1, .ref 1, P_z 1, .ref (w.2.2 28)]) P_i82_21 P_o_iadd (show P_aw _ _ _ 22 [.ref (w.2.2 13), P_z 0, P_z 1] [P_z 1, .ref 1, P_z 1, .ref (w.2.2 28)] _ _ from ?_)
  refine P_aw_call P_i82_22 rfl rfl (fun _ => rfl) rfl rfl rfl rfl (y2 := 178) (as := [.ref 1, P_z 1]) (r0 := [P_z 1, .ref (w.2.2 28)]) (fun _ _ => rfl) (Nat.le_of_ble_eq_true rfl) (by decide) rfl (Nat.le_of_ble_eq_true rfl) (show P_aw _ _ _ 0 [.ref 1, P_z 1] [] _ _ from ?_)
  refine P_aw_op (L' := [.ref 1, P_z 1]) (st' := [P_z 1]) P_i178_0 rfl (show P_aw _ _ _ 1 [.ref 1, P_z 1] [P_z 1] _ _ from ?_)
  refine P_aw_izf P_i178_1 ⟨by decide, by decide⟩ (P_ci_ltf (by omega)) (show P_aw _ _ _ 4 [.ref 1, P_z 1] [] _ _ from ?_)
  refine P_aw_op (L' := [.ref 1, P_z 1]) (st' := [P_z 1]) P_i178_4 rfl (show P_aw _ _ _ 5 [.ref 1, P_z 1] [P_z 1] _ _ from ?_)
  refine P_aw_op (L' := [.ref 1, P_z 1]) (st' := [.ref 1, P_z 1]) P_i178_5 rfl (show P_aw _ _ _ 6 [.ref 1, P_z 1] [.ref 1, P_z 1] _ _ from ?_)
  refine P_aw_olen P_i178_6 (show P_aw _ _ _ 7 [.ref 1, P_z 1] [P_z 18, P_z 1] _ _ from ?_)
  refine P_aw_icf P_i178_7 ⟨by decide, by decide⟩ ⟨by decide, by decide⟩ (P_ci_gef (by omega)) (show P_aw _ _ _ 10 [.ref 1, P_z 1] [] _ _ from ?_)
  refine P_aw_op (L' := [.ref 1, P_z 1]) (st' := [.ref 1]) P_i178_10 rfl (show P_aw _ _ _ 11 [.ref 1, P_z 1] [.ref 1] _ _ from ?_)
  refine P_aw_op (L' := [.ref 1, P_z 1]) (st' := [P_z 1, .ref 1]) P_i178_11 rfl (show P_aw _ _ _ 12 [.ref 1, P_z 1] [P_z 1, .ref 1] _ _ from ?_)
  refine P_aw_oald P_i178_12 (by decide) (by decide) (by decide +kernel) (show P_aw _ _ _ 13 [.ref 1, P_z 1] [P_z 1] _ _ from ?_)
  refine P_aw_goto P_i178_13 (show P_aw _ _ _ 17 [.ref 1, P_z 1] [P_z 1] _ _ from ?_)
  refine P_aw_end P_i178_17 rfl rfl (fun _ => rfl) rfl ?_
  show P_aw _ _ _ 25 [.ref (w.2.2 13), P_z 0, P_z 1] [P_z 1, P_z 1, .ref (w.2.2 28)] _ _
  refine P_aw_ast P_i82_25 (hw.2.1 28 (by decide)) (hw.s rfl) (by omega) (by omega) (by decide) (show P_aw _ _ _ 26 [.ref (w.2.2 13), P_z 0, P_z 1] [] _ _ from ?_)
  refine P_aw_op (L' := [.ref (w.2.2 13), P_z 0, P_z 2]) (st' := []) P_i82_26 (P_o_iincv (x := 1) rfl (by decide)) (show P_aw _ _ _ 29 [.ref (w.2.2 13), P_z 0, P_z 2] [] _ _ from ?_)
  refine P_aw_goto P_i82_29 (show P_aw _ _ _ 2 [.ref (w.2.2 13), P_z 0, P_z 2] [] _ _ from ?_)
  refine P_aw_op (L' := [.ref (w.2.2 13), P_z 0, P_z 2]) (st' := [P_z 2]) P_i82_2 rfl (show P_aw _ _ _ 3 [.ref (w.2.2 13), P_z 0, P_z 2] [P_z 2] _ _ from ?_)
  refine P_aw_op (L' := [.ref (w.2.2 13), P_z 0, P_z 2]) (st' := [.ref (w.2.2 13), P_z 2]) P_i82_3 rfl (show P_aw _ _ _ 4 [.ref (w.2.2 13), P_z 0, P_z 2] [.ref (w.2.2 13), P_z 2] _ _ from ?_)
  refine P_aw_getR P_i82_4 (hw.2.1 13 (by decide)) (hw.s rfl) rfl rfl (show P_aw _ _ _ 7 [.ref (w.2.2 13), P_z 0, P_z 2] [.ref (w.2.2 28), P_z 2] _ _ from ?_)
  refine P_aw_alen P_i82_7 (hw.2.1 28 (by decide)) (hw.s rfl) (show P_aw _ _ _ 8 [.ref (w.2.2 13), P_z 0, P_z 2] [P_z 3, P_z 2] _ _ from ?_)
  refine P_aw_icf P_i82_8 ⟨by decide, by decide⟩ ⟨by decide, by decide⟩ (P_ci_gef (by omega)) (show P_aw _ _ _ 11 [.ref (w.2.2 13), P_z 0, P_z 2] [] _ _ from ?_)
  refine P_aw_op (L' := [.ref (w.2.2 13), P_z 0, P_z 2]) (st' := [.ref (w.2.2 13)]) P_i82_11 rfl (show P_aw _ _ _ 12 [.ref (w.2.2 13), P_z 0, P_z 2] [.ref (w.2.2 13)] _ _ from ?_)
  refine P_aw_getR P_i82_12 (hw.2.1 13 (by decide)) (hw.s rfl) rfl rfl (show P_aw _ _ _ 15 [.ref (w.2.2 13), P_z 0, P_z 2] [.ref (w.2.2 28)] _ _ from ?_)
  refine P_aw_op (L' := [.ref (w.2.2 13), P_z 0, P_z 2]) (st' := [P_z 2, .ref (w.2.2 28)]) P_i82_15 rfl (show P_aw _ _ _ 16 [.ref (w.2.2 13), P_z 0, P_z 2] [P_z 2, .ref (w.2.2 28)] _ _ from ?_)
  refine P_aw_gst P_i82_16 (show P_aw _ _ _ 19 [.ref (w.2.2 13), P_z 0, P_z 2] [.ref 1, P_z 2, .ref (w.2.2 28)] _ _ from ?_)
  refine P_aw_op (L' := [.ref (w.2.2 13), P_z 0, P_z 2]) (st' := [P_z 0, .ref 1, P_z 2, .ref (w.2.2 28)]) P_i82_19 rfl (show P_aw _ _ _ 20 [.ref (w.2.2 13), P_z 0, P_z 2] [P_z 0, .ref 1, P_z 2, .ref (w.2.2 28)] _ _ from ?_)
  refine P_aw_op (L' := [.ref (w.2.2 13), P_z 0, P_z 2]) (st' := [P_z 2, P_z 0, .ref 1, P_z 2, .ref (w.2.2 28)]) P_i82_20 rfl (show P_aw _ _ _ 21 [.ref (w.2.2 13), P_z 0, P_z 2] [P_z 2, P_z 0, .ref 1, P_z 2, .ref (w.2.2 28)] _ _ from ?_)
  refine P_aw_op (L' := [.ref (w.2.2 13), P_z 0, P_z 2]) (st' := [P_z 2, .ref 1, P_z 2, .ref (w.2.2 28)]) P_i82_21 P_o_iadd (show P_aw _ _ _ 22 [.ref (w.2.2 13), P_z 0, P_z 2] [P_z 2, .ref 1, P_z 2, .ref (w.2.2 28)] _ _ from ?_)
  refine P_aw_call P_i82_22 rfl rfl (fun _ => rfl) rfl rfl rfl rfl (y2 := 178) (as := [.ref 1, P_z 2]) (r0 := [P_z 2, .ref (w.2.2 28)]) (fun _ _ => rfl) (Nat.le_of_ble_eq_true rfl) (by decide) rfl (Nat.le_of_ble_eq_true rfl) (show P_aw _ _ _ 0 [.ref 1, P_z 2] [] _ _ from ?_)
  refine P_aw_op (L' := [.ref 1, P_z 2]) (st' := [P_z 2]) P_i178_0 rfl (show P_aw _ _ _ 1 [.ref 1, P_z 2] [P_z 2] _ _ from ?_)
  refine P_aw_izf P_i178_1 ⟨by decide, by decide⟩ (P_ci_ltf (by omega)) (show P_aw _ _ _ 4 [.ref 1, P_z 2] [] _ _ from ?_)
  refine P_aw_op (L' := [.ref 1, P_z 2]) (st' := [P_z 2]) P_i178_4 rfl (show P_aw _ _ _ 5 [.ref 1, P_z 2] [P_z 2] _ _ from ?_)
  refine P_aw_op (L' := [.ref 1, P_z 2]) (st' := [.ref 1, P_z 2]) P_i178_5 rfl (show P_aw _ _ _ 6 [.ref 1, P_z 2] [.ref 1, P_z 2] _ _ from ?_)
  refine P_aw_olen P_i178_6 (show P_aw _ _ _ 7 [.ref 1, P_z 2] [P_z 18, P_z 2] _ _ from ?_)
  refine P_aw_icf P_i178_7 ⟨by decide, by decide⟩ ⟨by decide, by decide⟩ (P_ci_gef (by omega)) (show P_aw _ _ _ 10 [.ref 1, P_z 2] [] _ _ from ?_)
  refine P_aw_op (L' := [.ref 1, P_z 2]) (st' := [.ref 1]) P_i178_10 rfl (show P_aw _ _ _ 11 [.ref 1, P_z 2] [.ref 1] _ _ from ?_)
  refine P_aw_op (L' := [.ref 1, P_z 2]) (st' := [P_z 2, .ref 1]) P_i178_11 rfl (show P_aw _ _ _ 12 [.ref 1, P_z 2] [P_z 2, .ref 1] _ _ from ?_)
  refine P_aw_oald P_i178_12 (by decide) (by decide) (by decide +kernel) (show P_aw _ _ _ 13 [.ref 1, P_z 2] [P_z 2] _ _ from ?_)
  refine P_aw_goto P_i178_13 (show P_aw _ _ _ 17 [.ref 1, P_z 2] [P_z 2] _ _ from ?_)
  refine P_aw_end P_i178_17 rfl rfl (fun _ => rfl) rfl ?_
  show P_aw _ _ _ 25 [.ref (w.2.2 13), P_z 0, P_z 2] [P_z 2, P_z 2, .ref (w.2.2 28)] _ _
  refine P_aw_ast P_i82_25 (hw.2.1 28 (by decide)) (hw.s rfl) (by omega) (by omega) (by decide) (show P_aw _ _ _ 26 [.ref (w.2.2 13), P_z 0, P_z 2] [] _ _ from ?_)
  refine P_aw_op (L' := [.ref (w.2.2 13), P_z 0, P_z 3]) (st' := []) P_i82_26 (P_o_iincv (x := 2) rfl (by decide)) (show P_aw _ _ _ 29 [.ref (w.2.2 13), P_z 0, P_z 3] [] _ _ from ?_)
  refine P_aw_goto P_i82_29 (show P_aw _ _ _ 2 [.ref (w.2.2 13), P_z 0, P_z 3] [] _ _ from ?_)
  refine P_aw_op (L' := [.ref (w.2.2 13), P_z 0, P_z 3]) (st' := [P_z 3]) P_i82_2 rfl (show P_aw _ _ _ 3 [.ref (w.2.2 13), P_z 0, P_z 3] [P_z 3] _ _ from ?_)
  refine P_aw_op (L' := [.ref (w.2.2 13), P_z 0, P_z 3]) (st' := [.ref (w.2.2 13), P_z 3]) P_i82_3 rfl (show P_aw _ _ _ 4 [.ref (w.2.2 13), P_z 0, P_z 3] [.ref (w.2.2 13), P_z 3] _ _ from ?_)
  refine P_aw_getR P_i82_4 (hw.2.1 13 (by decide)) (hw.s rfl) rfl rfl (show P_aw _ _ _ 7 [.ref (w.2.2 13), P_z 0, P_z 3] [.ref (w.2.2 28), P_z 3] _ _ from ?_)
  refine P_aw_alen P_i82_7 (hw.2.1 28 (by decide)) (hw.s rfl) (show P_aw _ _ _ 8 [.ref (w.2.2 13), P_z 0, P_z 3] [P_z 3, P_z 3] _ _ from ?_)
  refine P_aw_ict P_i82_8 ⟨by decide, by decide⟩ ⟨by decide, by decide⟩ (P_ci_get (by omega)) (show P_aw _ _ _ 32 [.ref (w.2.2 13), P_z 0, P_z 3] [] _ _ from ?_)
  refine P_aw_op (L' := [.ref (w.2.2 13), P_z 0, P_z 3]) (st' := [P_z 0]) P_i82_32 rfl (show P_aw _ _ _ 33 [.ref (w.2.2 13), P_z 0, P_z 3] [P_z 0] _ _ from ?_)
  refine P_aw_op (L' := [.ref (w.2.2 13), P_z 0, P_z 0]) (st' := []) P_i82_33 rfl (show P_aw _ _ _ 34 [.ref (w.2.2 13), P_un, P_z 0] [] _ _ from ?_)
  refine P_aws (σ' := A_lev (A_o3 σ (A_od 0 0) (A_od 0 1) (A_od 0 2)) 0 (fun i => A_low (A_od 0) (cL i) (cR i))) (A_lev_0 (σ := A_o3 σ (A_od 0 0) (A_od 0 1) (A_od 0 2))).symm ?_
  exact s_bil (σ := A_o3 σ (A_od 0 0) (A_od 0 1) (A_od 0 2)) (od := A_od 0) hw hns (A_o3_O (A_isO_od hs hns)) (A_C_cg (cV' := cV) (A_o3_ne (by omega)) (fun a b h1 h2 h3 => A_o3_ne (by omega)) (fun i h0 h1 => ⟨(A_o3_ne (by omega)).trans (hC.2.2 i h0 h1).1.2.2.2, (hC.2.2 i h0 h1).2.2.2.2⟩) hC) sz.toNat 0 (by omega) (by omega) q

theorem s_bi3 {w : P_Lw} (hw : P_Cw w) {d : Nat} {Q : P_R → P_A → Prop} {σ : P_A} {ns : Int} (hns : 1 ≤ ns ∧ ns ≤ 3) {sz : Int} {cL cS cR cV : Int → Int} (hC : A_C σ ns sz cL cS cR cV) (hs : A_isO ns 3) (q : Q (.inl none) (A_bi σ 3 sz cL cR)) : P_aw w (d + 2) 82 0 [.ref (w.2.2 13), P_z 3, P_un] [] σ Q := by
  have hsz := hC.2.1
  refine P_aw_op (L' := [.ref (w.2.2 13), P_z 3, P_un]) (st' := [P_z 0]) P_i82_0 rfl (show P_aw _ _ _ 1 [.ref (w.2.2 13), P_z 3, P_un] [P_z 0] _ _ from ?_)
  refine P_aw_op (L' := [.ref (w.2.2 13), P_z 3, P_z 0]) (st' := []) P_i82_1 rfl (show P_aw _ _ _ 2 [.ref (w.2.2 13), P_z 3, P_z 0] [] _ _ from ?_)
  refine P_aw_op (L' := [.ref (w.2.2 13), P_z 3, P_z 0]) (st' := [P_z 0]) P_i82_2 rfl (show P_aw _ _ _ 3 [.ref (w.2.2 13), P_z 3, P_z 0] [P_z 0] _ _ from ?_)
  refine P_aw_op (L' := [.ref (w.2.2 13), P_z 3, P_z 0]) (st' := [.ref (w.2.2 13), P_z 0]) P_i82_3 rfl (show P_aw _ _ _ 4 [.ref (w.2.2 13), P_z 3, P_z 0] [.ref (w.2.2 13), P_z 0] _ _ from ?_)
  refine P_aw_getR P_i82_4 (hw.2.1 13 (by decide)) (hw.s rfl) rfl rfl (show P_aw _ _ _ 7 [.ref (w.2.2 13), P_z 3, P_z 0] [.ref (w.2.2 28), P_z 0] _ _ from ?_)
  refine P_aw_alen P_i82_7 (hw.2.1 28 (by decide)) (hw.s rfl) (show P_aw _ _ _ 8 [.ref (w.2.2 13), P_z 3, P_z 0] [P_z 3, P_z 0] _ _ from ?_)
  refine P_aw_icf P_i82_8 ⟨by decide, by decide⟩ ⟨by decide, by decide⟩ (P_ci_gef (by omega)) (show P_aw _ _ _ 11 [.ref (w.2.2 13), P_z 3, P_z 0] [] _ _ from ?_)
  refine P_aw_op (L' := [.ref (w.2.2 13), P_z 3, P_z 0]) (st' := [.ref (w.2.2 13)]) P_i82_11 rfl (show P_aw _ _ _ 12 [.ref (w.2.2 13), P_z 3, P_z 0] [.ref (w.2.2 13)] _ _ from ?_)
  refine P_aw_getR P_i82_12 (hw.2.1 13 (by decide)) (hw.s rfl) rfl rfl (show P_aw _ _ _ 15 [.ref (w.2.2 13), P_z 3, P_z 0] [.ref (w.2.2 28)] _ _ from ?_)
  refine P_aw_op (L' := [.ref (w.2.2 13), P_z 3, P_z 0]) (st' := [P_z 0, .ref (w.2.2 28)]) P_i82_15 rfl (show P_aw _ _ _ 16 [.ref (w.2.2 13), P_z 3, P_z 0] [P_z 0, .ref (w.2.2 28)] _ _ from ?_)
  refine P_aw_gst P_i82_16 (show P_aw _ _ _ 19 [.ref (w.2.2 13), P_z 3, P_z 0] [.ref 1, P_z 0, .ref (w.2.2 28)] _ _ from ?_)
  refine P_aw_op (L' := [.ref (w.2.2 13), P_z 3, P_z 0]) (st' := [P_z 3, .ref 1, P_z 0, .ref (w.2.2 28)]) P_i82_19 rfl (show P_aw _ _ _ 20 [.ref (w.2.2 13), P_z 3, P_z 0] [P_z 3, .ref 1, P_z 0, .ref (w.2.2 28)] _ _ from ?_)
  refine P_aw_op (L' := [.ref (w.2.2 13), P_z 3, P_z 0]) (st' := [P_z 0, P_z 3, .ref 1, P_z 0, .ref (w.2.2 28)]) P_i82_20 rfl (show P_aw _ _ _ 21 [.ref (w.2.2 13), P_z 3, P_z 0] [P_z 0, P_z 3, .ref 1, P_z 0, .ref (w.2.2 28)] _ _ from ?_)
  refine P_aw_op (L' := [.ref (w.2.2 13), P_z 3, P_z 0]) (st' := [P_z 3, .ref 1, P_z 0, .ref (w.2.2 28)]) P_i82_21 P_o_iadd (show P_aw _ _ _ 22 [.ref (w.2.2 13), P_z 3, P_z 0] [P_z 3, .ref 1, P_z 0, .ref (w.2.2 28)] _ _ from ?_)
  refine P_aw_call P_i82_22 rfl rfl (fun _ => rfl) rfl rfl rfl rfl (y2 := 178) (as := [.ref 1, P_z 3]) (r0 := [P_z 0, .ref (w.2.2 28)]) (fun _ _ => rfl) (Nat.le_of_ble_eq_true rfl) (by decide) rfl (Nat.le_of_ble_eq_true rfl) (show P_aw _ _ _ 0 [.ref 1, P_z 3] [] _ _ from ?_)
  refine P_aw_op (L' := [.ref 1, P_z 3]) (st' := [P_z 3]) P_i178_0 rfl (show P_aw _ _ _ 1 [.ref 1, P_z 3] [P_z 3] _ _ from ?_)
  refine P_aw_izf P_i178_1 ⟨by decide, by decide⟩ (P_ci_ltf (by omega)) (show P_aw _ _ _ 4 [.ref 1, P_z 3] [] _ _ from ?_)
  refine P_aw_op (L' := [.ref 1, P_z 3]) (st' := [P_z 3]) P_i178_4 rfl (show P_aw _ _ _ 5 [.ref 1, P_z 3] [P_z 3] _ _ from ?_)
  refine P_aw_op (L' := [.ref 1, P_z 3]) (st' := [.ref 1, P_z 3]) P_i178_5 rfl (show P_aw _ _ _ 6 [.ref 1, P_z 3] [.ref 1, P_z 3] _ _ from ?_)
  refine P_aw_olen P_i178_6 (show P_aw _ _ _ 7 [.ref 1, P_z 3] [P_z 18, P_z 3] _ _ from ?_)
  refine P_aw_icf P_i178_7 ⟨by decide, by decide⟩ ⟨by decide, by decide⟩ (P_ci_gef (by omega)) (show P_aw _ _ _ 10 [.ref 1, P_z 3] [] _ _ from ?_)
  refine P_aw_op (L' := [.ref 1, P_z 3]) (st' := [.ref 1]) P_i178_10 rfl (show P_aw _ _ _ 11 [.ref 1, P_z 3] [.ref 1] _ _ from ?_)
  refine P_aw_op (L' := [.ref 1, P_z 3]) (st' := [P_z 3, .ref 1]) P_i178_11 rfl (show P_aw _ _ _ 12 [.ref 1, P_z 3] [P_z 3, .ref 1] _ _ from ?_)
  refine P_aw_oald P_i178_12 (by decide) (by decide) (by decide +kernel) (show P_aw _ _ _ 13 [.ref 1, P_z 3] [P_z 0] _ _ from ?_)
  refine P_aw_goto P_i178_13 (show P_aw _ _ _ 17 [.ref 1, P_z 3] [P_z 0] _ _ from ?_)
  refine P_aw_end P_i178_17 rfl rfl (fun _ => rfl) rfl ?_
  show P_aw _ _ _ 25 [.ref (w.2.2 13), P_z 3, P_z 0] [P_z 0, P_z 0, .ref (w.2.2 28)] _ _
  refine P_aw_ast P_i82_25 (hw.2.1 28 (by decide)) (hw.s rfl) (by omega) (by omega) (by decide) (show P_aw _ _ _ 26 [.ref (w.2.2 13), P_z 3, P_z 0] [] _ _ from ?_)
  refine P_aw_op (L' := [.ref (w.2.2 13), P_z 3, P_z 1]) (st' := []) P_i82_26 (P_o_iincv (x := 0) rfl (by decide)) (show P_aw _ _ _ 29 [.ref (w.2.2 13), P_z 3, P_z 1] [] _ _ from ?_)
  refine P_aw_goto P_i82_29 (show P_aw _ _ _ 2 [.ref (w.2.2 13), P_z 3, P_z 1] [] _ _ from ?_)
  refine P_aw_op (L' := [.ref (w.2.2 13), P_z 3, P_z 1]) (st' := [P_z 1]) P_i82_2 rfl (show P_aw _ _ _ 3 [.ref (w.2.2 13), P_z 3, P_z 1] [P_z 1] _ _ from ?_)
  refine P_aw_op (L' := [.ref (w.2.2 13), P_z 3, P_z 1]) (st' := [.ref (w.2.2 13), P_z 1]) P_i82_3 rfl (show P_aw _ _ _ 4 [.ref (w.2.2 13), P_z 3, P_z 1] [.ref (w.2.2 13), P_z 1] _ _ from ?_)
  refine P_aw_getR P_i82_4 (hw.2.1 13 (by decide)) (hw.s rfl) rfl rfl (show P_aw _ _ _ 7 [.ref (w.2.2 13), P_z 3, P_z 1] [.ref (w.2.2 28), P_z 1] _ _ from ?_)
  refine P_aw_alen P_i82_7 (hw.2.1 28 (by decide)) (hw.s rfl) (show P_aw _ _ _ 8 [.ref (w.2.2 13), P_z 3, P_z 1] [P_z 3, P_z 1] _ _ from ?_)
  refine P_aw_icf P_i82_8 ⟨by decide, by decide⟩ ⟨by decide, by decide⟩ (P_ci_gef (by omega)) (show P_aw _ _ _ 11 [.ref (w.2.2 13), P_z 3, P_z 1] [] _ _ from ?_)
  refine P_aw_op (L' := [.ref (w.2.2 13), P_z 3, P_z 1]) (st' := [.ref (w.2.2 13)]) P_i82_11 rfl (show P_aw _ _ _ 12 [.ref (w.2.2 13), P_z 3, P_z 1] [.ref (w.2.2 13)] _ _ from ?_)
  refine P_aw_getR P_i82_12 (hw.2.1 13 (by decide)) (hw.s rfl) rfl rfl (show P_aw _ _ _ 15 [.ref (w.2.2 13), P_z 3, P_z 1] [.ref (w.2.2 28)] _ _ from ?_)
  refine P_aw_op (L' := [.ref (w.2.2 13), P_z 3, P_z 1]) (st' := [P_z 1, .ref (w.2.2 28)]) P_i82_15 rfl (show P_aw _ _ _ 16 [.ref (w.2.2 13), P_z 3, P_z 1] [P_z 1, .ref (w.2.2 28)] _ _ from ?_)
  refine P_aw_gst P_i82_16 (show P_aw _ _ _ 19 [.ref (w.2.2 13), P_z 3, P_z 1] [.ref 1, P_z 1, .ref (w.2.2 28)] _ _ from ?_)
  refine P_aw_op (L' := [.ref (w.2.2 13), P_z 3, P_z 1]) (st' := [P_z 3, .ref 1, P_z 1, .ref (w.2.2 28)]) P_i82_19 rfl (show P_aw _ _ _ 20 [.ref (w.2.2 13), P_z 3, P_z 1] [P_z 3, .ref 1, P_z 1, .ref (w.2.2 28)] _ _ from ?_)
  refine P_aw_op (L' := [.ref (w.2.2 13), P_z 3, P_z 1]) (st' := [P_z 1, P_z 3, .ref 1, P_z 1, .ref (w.2.2 28)]) P_i82_20 rfl (show P_aw _ _ _ 21 [.ref (w.2.2 13), P_z 3, P_z 1] [P_z 1, P_z 3, .ref 1, P_z 1, .ref (w.2.2 28)] _ _ from ?_)
  refine P_aw_op (L' := [.ref (w.2.2 13), P_z 3, P_z 1]) (st' := [P_z 4, .ref 1, P_z 1, .ref (w.2.2 28)]) P_i82_21 P_o_iadd (show P_aw _ _ _ 22 [.ref (w.2.2 13), P_z 3, P_z 1] [P_z 4, .ref 1, P_z 1, .ref (w.2.2 28)] _ _ from ?_)
  refine P_aw_call P_i82_22 rfl rfl (fun _ => rfl) rfl rfl rfl rfl (y2 := 178) (as := [.ref 1, P_z 4]) (r0 := [P_z 1, .ref (w.2.2 28)]) (fun _ _ => rfl) (Nat.le_of_ble_eq_true rfl) (by decide) rfl (Nat.le_of_ble_eq_true rfl) (show P_aw _ _ _ 0 [.ref 1, P_z 4] [] _ _ from ?_)
  refine P_aw_op (L' := [.ref 1, P_z 4]) (st' := [P_z 4]) P_i178_0 rfl (show P_aw _ _ _ 1 [.ref 1, P_z 4] [P_z 4] _ _ from ?_)
  refine P_aw_izf P_i178_1 ⟨by decide, by decide⟩ (P_ci_ltf (by omega)) (show P_aw _ _ _ 4 [.ref 1, P_z 4] [] _ _ from ?_)
  refine P_aw_op (L' := [.ref 1, P_z 4]) (st' := [P_z 4]) P_i178_4 rfl (show P_aw _ _ _ 5 [.ref 1, P_z 4] [P_z 4] _ _ from ?_)
  refine P_aw_op (L' := [.ref 1, P_z 4]) (st' := [.ref 1, P_z 4]) P_i178_5 rfl (show P_aw _ _ _ 6 [.ref 1, P_z 4] [.ref 1, P_z 4] _ _ from ?_)
  refine P_aw_olen P_i178_6 (show P_aw _ _ _ 7 [.ref 1, P_z 4] [P_z 18, P_z 4] _ _ from ?_)
  refine P_aw_icf P_i178_7 ⟨by decide, by decide⟩ ⟨by decide, by decide⟩ (P_ci_gef (by omega)) (show P_aw _ _ _ 10 [.ref 1, P_z 4] [] _ _ from ?_)
  refine P_aw_op (L' := [.ref 1, P_z 4]) (st' := [.ref 1]) P_i178_10 rfl (show P_aw _ _ _ 11 [.ref 1, P_z 4] [.ref 1] _ _ from ?_)
  refine P_aw_op (L' := [.ref 1, P_z 4]) (st' := [P_z 4, .ref 1]) P_i178_11 rfl (show P_aw _ _ _ 12 [.ref 1, P_z 4] [P_z 4, .ref 1] _ _ from ?_)
  refine P_aw_oald P_i178_12 (by decide) (by decide) (by decide +kernel) (show P_aw _ _ _ 13 [.ref 1, P_z 4] [P_z 2] _ _ from ?_)
  refine P_aw_goto P_i178_13 (show P_aw _ _ _ 17 [.ref 1, P_z 4] [P_z 2] _ _ from ?_)
  refine P_aw_end P_i178_17 rfl rfl (fun _ => rfl) rfl ?_
  show P_aw _ _ _ 25 [.ref (w.2.2 13), P_z 3, P_z 1] [P_z 2, P_z 1, .ref (w.2.2 28)] _ _
  refine P_aw_ast P_i82_25 (hw.2.1 28 (by decide)) (hw.s rfl) (by omega) (by omega) (by decide) (show P_aw _ _ _ 26 [.ref (w.2.2 13), P_z 3, P_z 1] [] _ _ from ?_)
  refine P_aw_op (L' := [.ref (w.2.2 13), P_z 3, P_z 2]) (st' := []) P_i82_26 (P_o_iincv (x := 1) rfl (by decide)) (show P_aw _ _ _ 29 [.ref (w.2.2 13), P_z 3, P_z 2] [] _ _ from ?_)
  refine P_aw_goto P_i82_29 (show P_aw _ _ _ 2 [.ref (w.2.2 13), P_z 3, P_z 2] [] _ _ from ?_)
  refine P_aw_op (L' := [.ref (w.2.2 13), P_z 3, P_z 2]) (st' := [P_z 2]) P_i82_2 rfl (show P_aw _ _ _ 3 [.ref (w.2.2 13), P_z 3, P_z 2] [P_z 2] _ _ from ?_)
  refine P_aw_op (L' := [.ref (w.2.2 13), P_z 3, P_z 2]) (st' := [.ref (w.2.2 13), P_z 2]) P_i82_3 rfl (show P_aw _ _ _ 4 [.ref (w.2.2 13), P_z 3, P_z 2] [.ref (w.2.2 13), P_z 2] _ _ from ?_)
  refine P_aw_getR P_i82_4 (hw.2.1 13 (by decide)) (hw.s rfl) rfl rfl (show P_aw _ _ _ 7 [.ref (w.2.2 13), P_z 3, P_z 2] [.ref (w.2.2 28), P_z 2] _ _ from ?_)
  refine P_aw_alen P_i82_7 (hw.2.1 28 (by decide)) (hw.s rfl) (show P_aw _ _ _ 8 [.ref (w.2.2 13), P_z 3, P_z 2] [P_z 3, P_z 2] _ _ from ?_)
  refine P_aw_icf P_i82_8 ⟨by decide, by decide⟩ ⟨by decide, by decide⟩ (P_ci_gef (by omega)) (show P_aw _ _ _ 11 [.ref (w.2.2 13), P_z 3, P_z 2] [] _ _ from ?_)
  refine P_aw_op (L' := [.ref (w.2.2 13), P_z 3, P_z 2]) (st' := [.ref (w.2.2 13)]) P_i82_11 rfl (show P_aw _ _ _ 12 [.ref (w.2.2 13), P_z 3, P_z 2] [.ref (w.2.2 13)] _ _ from ?_)
  refine P_aw_getR P_i82_12 (hw.2.1 13 (by decide)) (hw.s rfl) rfl rfl (show P_aw _ _ _ 15 [.ref (w.2.2 13), P_z 3, P_z 2] [.ref (w.2.2 28)] _ _ from ?_)
  refine P_aw_op (L' := [.ref (w.2.2 13), P_z 3, P_z 2]) (st' := [P_z 2, .ref (w.2.2 28)]) P_i82_15 rfl (show P_aw _ _ _ 16 [.ref (w.2.2 13), P_z 3, P_z 2] [P_z 2, .ref (w.2.2 28)] _ _ from ?_)
  refine P_aw_gst P_i82_16 (show P_aw _ _ _ 19 [.ref (w.2.2 13), P_z 3, P_z 2] [.ref 1, P_z 2, .ref (w.2.2 28)] _ _ from ?_)
  refine P_aw_op (L' := [.ref (w.2.2 13), P_z 3, P_z 2]) (st' := [P_z 3, .ref 1, P_z 2, .ref (w.2.2 28)]) P_i82_19 rfl (show P_aw _ _ _ 20 [.ref (w.2.2 13), P_z 3, P_z 2] [P_z 3, .ref 1, P_z 2, .ref (w.2.2 28)] _ _ from ?_)
  refine P_aw_op (L' := [.ref (w.2.2 13), P_z 3, P_z 2]) (st' := [P_z 2, P_z 3, .ref 1, P_z 2, .ref (w.2.2 28)]) P_i82_20 rfl (show P_aw _ _ _ 21 [.ref (w.2.2 13), P_z 3, P_z 2] [P_z 2, P_z 3, .ref 1, P_z 2, .ref (w.2.2 28)] _ _ from ?_)
  refine P_aw_op (L' := [.ref (w.2.2 13), P_z 3, P_z 2]) (st' := [P_z 5, .ref 1, P_z 2, .ref (w.2.2 28)]) P_i82_21 P_o_iadd (show P_aw _ _ _ 22 [.ref (w.2.2 13), P_z 3, P_z 2] [P_z 5, .ref 1, P_z 2, .ref (w.2.2 28)] _ _ from ?_)
  refine P_aw_call P_i82_22 rfl rfl (fun _ => rfl) rfl rfl rfl rfl (y2 := 178) (as := [.ref 1, P_z 5]) (r0 := [P_z 2, .ref (w.2.2 28)]) (fun _ _ => rfl) (Nat.le_of_ble_eq_true rfl) (by decide) rfl (Nat.le_of_ble_eq_true rfl) (show P_aw _ _ _ 0 [.ref 1, P_z 5] [] _ _ from ?_)
  refine P_aw_op (L' := [.ref 1, P_z 5]) (st' := [P_z 5]) P_i178_0 rfl (show P_aw _ _ _ 1 [.ref 1, P_z 5] [P_z 5] _ _ from ?_)
  refine P_aw_izf P_i178_1 ⟨by decide, by decide⟩ (P_ci_ltf (by omega)) (show P_aw _ _ _ 4 [.ref 1, P_z 5] [] _ _ from ?_)
  refine P_aw_op (L' := [.ref 1, P_z 5]) (st' := [P_z 5]) P_i178_4 rfl (show P_aw _ _ _ 5 [.ref 1, P_z 5] [P_z 5] _ _ from ?_)
  refine P_aw_op (L' := [.ref 1, P_z 5]) (st' := [.ref 1, P_z 5]) P_i178_5 rfl (show P_aw _ _ _ 6 [.ref 1, P_z 5] [.ref 1, P_z 5] _ _ from ?_)
  refine P_aw_olen P_i178_6 (show P_aw _ _ _ 7 [.ref 1, P_z 5] [P_z 18, P_z 5] _ _ from ?_)
  refine P_aw_icf P_i178_7 ⟨by decide, by decide⟩ ⟨by decide, by decide⟩ (P_ci_gef (by omega)) (show P_aw _ _ _ 10 [.ref 1, P_z 5] [] _ _ from ?_)
  refine P_aw_op (L' := [.ref 1, P_z 5]) (st' := [.ref 1]) P_i178_10 rfl (show P_aw _ _ _ 11 [.ref 1, P_z 5] [.ref 1] _ _ from ?_)
  refine P_aw_op (L' := [.ref 1, P_z 5]) (st' := [P_z 5, .ref 1]) P_i178_11 rfl (show P_aw _ _ _ 12 [.ref 1, P_z 5] [P_z 5, .ref 1] _ _ from ?_)
  refine P_aw_oald P_i178_12 (by decide) (by decide) (by decide +kernel) (show P_aw _ _ _ 13 [.ref 1, P_z 5] [P_z 1] _ _ from ?_)
  refine P_aw_goto P_i178_13 (show P_aw _ _ _ 17 [.ref 1, P_z 5] [P_z 1] _ _ from ?_)
  refine P_aw_end P_i178_17 rfl rfl (fun _ => rfl) rfl ?_
  show P_aw _ _ _ 25 [.ref (w.2.2 13), P_z 3, P_z 2] [P_z 1, P_z 2, .ref (w.2.2 28)] _ _
  refine P_aw_ast P_i82_25 (hw.2.1 28 (by decide)) (hw.s rfl) (by omega) (by omega) (by decide) (show P_aw _ _ _ 26 [.ref (w.2.2 13), P_z 3, P_z 2] [] _ _ from ?_)
  refine P_aw_op (L' := [.ref (w.2.2 13), P_z 3, P_z 3]) (st' := []) P_i82_26 (P_o_iincv (x := 2) rfl (by decide)) (show P_aw _ _ _ 29 [.ref (w.2.2 13), P_z 3, P_z 3] [] _ _ from ?_)
  refine P_aw_goto P_i82_29 (show P_aw _ _ _ 2 [.ref (w.2.2 13), P_z 3, P_z 3] [] _ _ from ?_)
  refine P_aw_op (L' := [.ref (w.2.2 13), P_z 3, P_z 3]) (st' := [P_z 3]) P_i82_2 rfl (show P_aw _ _ _ 3 [.ref (w.2.2 13), P_z 3, P_z 3] [P_z 3] _ _ from ?_)
  refine P_aw_op (L' := [.ref (w.2.2 13), P_z 3, P_z 3]) (st' := [.ref (w.2.2 13), P_z 3]) P_i82_3 rfl (show P_aw _ _ _ 4 [.ref (w.2.2 13), P_z 3, P_z 3] [.ref (w.2.2 13), P_z 3] _ _ from ?_)
  refine P_aw_getR P_i82_4 (hw.2.1 13 (by decide)) (hw.s rfl) rfl rfl (show P_aw _ _ _ 7 [.ref (w.2.2 13), P_z 3, P_z 3] [.ref (w.2.2 28), P_z 3] _ _ from ?_)
  refine P_aw_alen P_i82_7 (hw.2.1 28 (by decide)) (hw.s rfl) (show P_aw _ _ _ 8 [.ref (w.2.2 13), P_z 3, P_z 3] [P_z 3, P_z 3] _ _ from ?_)
  refine P_aw_ict P_i82_8 ⟨by decide, by decide⟩ ⟨by decide, by decide⟩ (P_ci_get (by omega)) (show P_aw _ _ _ 32 [.ref (w.2.2 13), P_z 3, P_z 3] [] _ _ from ?_)
  refine P_aw_op (L' := [.ref (w.2.2 13), P_z 3, P_z 3]) (st' := [P_z 0]) P_i82_32 rfl (show P_aw _ _ _ 33 [.ref (w.2.2 13), P_z 3, P_z 3] [P_z 0] _ _ from ?_)
  refine P_aw_op (L' := [.ref (w.2.2 13), P_z 3, P_z 0]) (st' := []) P_i82_33 rfl (show P_aw _ _ _ 34 [.ref (w.2.2 13), P_un, P_z 0] [] _ _ from ?_)
  refine P_aws (σ' := A_lev (A_o3 σ (A_od 3 0) (A_od 3 1) (A_od 3 2)) 0 (fun i => A_low (A_od 3) (cL i) (cR i))) (A_lev_0 (σ := A_o3 σ (A_od 3 0) (A_od 3 1) (A_od 3 2))).symm ?_
  exact s_bil (σ := A_o3 σ (A_od 3 0) (A_od 3 1) (A_od 3 2)) (od := A_od 3) hw hns (A_o3_O (A_isO_od hs hns)) (A_C_cg (cV' := cV) (A_o3_ne (by omega)) (fun a b h1 h2 h3 => A_o3_ne (by omega)) (fun i h0 h1 => ⟨(A_o3_ne (by omega)).trans (hC.2.2 i h0 h1).1.2.2.2, (hC.2.2 i h0 h1).2.2.2.2⟩) hC) sz.toNat 0 (by omega) (by omega) q

theorem s_bi6 {w : P_Lw} (hw : P_Cw w) {d : Nat} {Q : P_R → P_A → Prop} {σ : P_A} {ns : Int} (hns : 1 ≤ ns ∧ ns ≤ 3) {sz : Int} {cL cS cR cV : Int → Int} (hC : A_C σ ns sz cL cS cR cV) (hs : A_isO ns 6) (q : Q (.inl none) (A_bi σ 6 sz cL cR)) : P_aw w (d + 2) 82 0 [.ref (w.2.2 13), P_z 6, P_un] [] σ Q := by
  have hsz := hC.2.1
  refine P_aw_op (L' := [.ref (w.2.2 13), P_z 6, P_un]) (st' := [P_z 0]) P_i82_0 rfl (show P_aw _ _ _ 1 [.ref (w.2.2 13), P_z 6, P_un] [P_z 0] _ _ from ?_)
  refine P_aw_op (L' := [.ref (w.2.2 13), P_z 6, P_z 0]) (st' := []) P_i82_1 rfl (show P_aw _ _ _ 2 [.ref (w.2.2 13), P_z 6, P_z 0] [] _ _ from ?_)
  refine P_aw_op (L' := [.ref (w.2.2 13), P_z 6, P_z 0]) (st' := [P_z 0]) P_i82_2 rfl (show P_aw _ _ _ 3 [.ref (w.2.2 13), P_z 6, P_z 0] [P_z 0] _ _ from ?_)
  refine P_aw_op (L' := [.ref (w.2.2 13), P_z 6, P_z 0]) (st' := [.ref (w.2.2 13), P_z 0]) P_i82_3 rfl (show P_aw _ _ _ 4 [.ref (w.2.2 13), P_z 6, P_z 0] [.ref (w.2.2 13), P_z 0] _ _ from ?_)
  refine P_aw_getR P_i82_4 (hw.2.1 13 (by decide)) (hw.s rfl) rfl rfl (show P_aw _ _ _ 7 [.ref (w.2.2 13), P_z 6, P_z 0] [.ref (w.2.2 28), P_z 0] _ _ from ?_)
  refine P_aw_alen P_i82_7 (hw.2.1 28 (by decide)) (hw.s rfl) (show P_aw _ _ _ 8 [.ref (w.2.2 13), P_z 6, P_z 0] [P_z 3, P_z 0] _ _ from ?_)
  refine P_aw_icf P_i82_8 ⟨by decide, by decide⟩ ⟨by decide, by decide⟩ (P_ci_gef (by omega)) (show P_aw _ _ _ 11 [.ref (w.2.2 13), P_z 6, P_z 0] [] _ _ from ?_)
  refine P_aw_op (L' := [.ref (w.2.2 13), P_z 6, P_z 0]) (st' := [.ref (w.2.2 13)]) P_i82_11 rfl (show P_aw _ _ _ 12 [.ref (w.2.2 13), P_z 6, P_z 0] [.ref (w.2.2 13)] _ _ from ?_)
  refine P_aw_getR P_i82_12 (hw.2.1 13 (by decide)) (hw.s rfl) rfl rfl (show P_aw _ _ _ 15 [.ref (w.2.2 13), P_z 6, P_z 0] [.ref (w.2.2 28)] _ _ from ?_)
  refine P_aw_op (L' := [.ref (w.2.2 13), P_z 6, P_z 0]) (st' := [P_z 0, .ref (w.2.2 28)]) P_i82_15 rfl (show P_aw _ _ _ 16 [.ref (w.2.2 13), P_z 6, P_z 0] [P_z 0, .ref (w.2.2 28)] _ _ from ?_)
  refine P_aw_gst P_i82_16 (show P_aw _ _ _ 19 [.ref (w.2.2 13), P_z 6, P_z 0] [.ref 1, P_z 0, .ref (w.2.2 28)] _ _ from ?_)
  refine P_aw_op (L' := [.ref (w.2.2 13), P_z 6, P_z 0]) (st' := [P_z 6, .ref 1, P_z 0, .ref (w.2.2 28)]) P_i82_19 rfl (show P_aw _ _ _ 20 [.ref (w.2.2 13), P_z 6, P_z 0] [P_z 6, .ref 1, P_z 0, .ref (w.2.2 28)] _ _ from ?_)
  refine P_aw_op (L' := [.ref (w.2.2 13), P_z 6, P_z 0]) (st' := [P_z 0, P_z 6, .ref 1, P_z 0, .ref (w.2.2 28)]) P_i82_20 rfl (show P_aw _ _ _ 21 [.ref (w.2.2 13), P_z 6, P_z 0] [P_z 0, P_z 6, .ref 1, P_z 0, .ref (w.2.2 28)] _ _ from ?_)
  refine P_aw_op (L' := [.ref (w.2.2 13), P_z 6, P_z 0]) (st' := [P_z 6, .ref 1, P_z 0, .ref (w.2.2 28)]) P_i82_21 P_o_iadd (show P_aw _ _ _ 22 [.ref (w.2.2 13), P_z 6, P_z 0] [P_z 6, .ref 1, P_z 0, .ref (w.2.2 28)] _ _ from ?_)
  refine P_aw_call P_i82_22 rfl rfl (fun _ => rfl) rfl rfl rfl rfl (y2 := 178) (as := [.ref 1, P_z 6]) (r0 := [P_z 0, .ref (w.2.2 28)]) (fun _ _ => rfl) (Nat.le_of_ble_eq_true rfl) (by decide) rfl (Nat.le_of_ble_eq_true rfl) (show P_aw _ _ _ 0 [.ref 1, P_z 6] [] _ _ from ?_)
  refine P_aw_op (L' := [.ref 1, P_z 6]) (st' := [P_z 6]) P_i178_0 rfl (show P_aw _ _ _ 1 [.ref 1, P_z 6] [P_z 6] _ _ from ?_)
  refine P_aw_izf P_i178_1 ⟨by decide, by decide⟩ (P_ci_ltf (by omega)) (show P_aw _ _ _ 4 [.ref 1, P_z 6] [] _ _ from ?_)
  refine P_aw_op (L' := [.ref 1, P_z 6]) (st' := [P_z 6]) P_i178_4 rfl (show P_aw _ _ _ 5 [.ref 1, P_z 6] [P_z 6] _ _ from ?_)
  refine P_aw_op (L' := [.ref 1, P_z 6]) (st' := [.ref 1, P_z 6]) P_i178_5 rfl (show P_aw _ _ _ 6 [.ref 1, P_z 6] [.ref 1, P_z 6] _ _ from ?_)
  refine P_aw_olen P_i178_6 (show P_aw _ _ _ 7 [.ref 1, P_z 6] [P_z 18, P_z 6] _ _ from ?_)
  refine P_aw_icf P_i178_7 ⟨by decide, by decide⟩ ⟨by decide, by decide⟩ (P_ci_gef (by omega)) (show P_aw _ _ _ 10 [.ref 1, P_z 6] [] _ _ from ?_)
  refine P_aw_op (L' := [.ref 1, P_z 6]) (st' := [.ref 1]) P_i178_10 rfl (show P_aw _ _ _ 11 [.ref 1, P_z 6] [.ref 1] _ _ from ?_)
  refine P_aw_op (L' := [.ref 1, P_z 6]) (st' := [P_z 6, .ref 1]) P_i178_11 rfl (show P_aw _ _ _ 12 [.ref 1, P_z 6] [P_z 6, .ref 1] _ _ from ?_)
  refine P_aw_oald P_i178_12 (by decide) (by decide) (by decide +kernel) (show P_aw _ _ _ 13 [.ref 1, P_z 6] [P_z 1] _ _ from ?_)
  refine P_aw_goto P_i178_13 (show P_aw _ _ _ 17 [.ref 1, P_z 6] [P_z 1] _ _ from ?_)
  refine P_aw_end P_i178_17 rfl rfl (fun _ => rfl) rfl ?_
  show P_aw _ _ _ 25 [.ref (w.2.2 13), P_z 6, P_z 0] [P_z 1, P_z 0, .ref (w.2.2 28)] _ _
  refine P_aw_ast P_i82_25 (hw.2.1 28 (by decide)) (hw.s rfl) (by omega) (by omega) (by decide) (show P_aw _ _ _ 26 [.ref (w.2.2 13), P_z 6, P_z 0] [] _ _ from ?_)
  refine P_aw_op (L' := [.ref (w.2.2 13), P_z 6, P_z 1]) (st' := []) P_i82_26 (P_o_iincv (x := 0) rfl (by decide)) (show P_aw _ _ _ 29 [.ref (w.2.2 13), P_z 6, P_z 1] [] _ _ from ?_)
  refine P_aw_goto P_i82_29 (show P_aw _ _ _ 2 [.ref (w.2.2 13), P_z 6, P_z 1] [] _ _ from ?_)
  refine P_aw_op (L' := [.ref (w.2.2 13), P_z 6, P_z 1]) (st' := [P_z 1]) P_i82_2 rfl (show P_aw _ _ _ 3 [.ref (w.2.2 13), P_z 6, P_z 1] [P_z 1] _ _ from ?_)
  refine P_aw_op (L' := [.ref (w.2.2 13), P_z 6, P_z 1]) (st' := [.ref (w.2.2 13), P_z 1]) P_i82_3 rfl (show P_aw _ _ _ 4 [.ref (w.2.2 13), P_z 6, P_z 1] [.ref (w.2.2 13), P_z 1] _ _ from ?_)
  refine P_aw_getR P_i82_4 (hw.2.1 13 (by decide)) (hw.s rfl) rfl rfl (show P_aw _ _ _ 7 [.ref (w.2.2 13), P_z 6, P_z 1] [.ref (w.2.2 28), P_z 1] _ _ from ?_)
  refine P_aw_alen P_i82_7 (hw.2.1 28 (by decide)) (hw.s rfl) (show P_aw _ _ _ 8 [.ref (w.2.2 13), P_z 6, P_z 1] [P_z 3, P_z 1] _ _ from ?_)
  refine P_aw_icf P_i82_8 ⟨by decide, by decide⟩ ⟨by decide, by decide⟩ (P_ci_gef (by omega)) (show P_aw _ _ _ 11 [.ref (w.2.2 13), P_z 6, P_z 1] [] _ _ from ?_)
  refine P_aw_op (L' := [.ref (w.2.2 13), P_z 6, P_z 1]) (st' := [.ref (w.2.2 13)]) P_i82_11 rfl (show P_aw _ _ _ 12 [.ref (w.2.2 13), P_z 6, P_z 1] [.ref (w.2.2 13)] _ _ from ?_)
  refine P_aw_getR P_i82_12 (hw.2.1 13 (by decide)) (hw.s rfl) rfl rfl (show P_aw _ _ _ 15 [.ref (w.2.2 13), P_z 6, P_z 1] [.ref (w.2.2 28)] _ _ from ?_)
  refine P_aw_op (L' := [.ref (w.2.2 13), P_z 6, P_z 1]) (st' := [P_z 1, .ref (w.2.2 28)]) P_i82_15 rfl (show P_aw _ _ _ 16 [.ref (w.2.2 13), P_z 6, P_z 1] [P_z 1, .ref (w.2.2 28)] _ _ from ?_)
  refine P_aw_gst P_i82_16 (show P_aw _ _ _ 19 [.ref (w.2.2 13), P_z 6, P_z 1] [.ref 1, P_z 1, .ref (w.2.2 28)] _ _ from ?_)
  refine P_aw_op (L' := [.ref (w.2.2 13), P_z 6, P_z 1]) (st' := [P_z 6, .ref 1, P_z 1, .ref (w.2.2 28)]) P_i82_19 rfl (show P_aw _ _ _ 20 [.ref (w.2.2 13), P_z 6, P_z 1] [P_z 6, .ref 1, P_z 1, .ref (w.2.2 28)] _ _ from ?_)
  refine P_aw_op (L' := [.ref (w.2.2 13), P_z 6, P_z 1]) (st' := [P_z 1, P_z 6, .ref 1, P_z 1, .ref (w.2.2 28)]) P_i82_20 rfl (show P_aw _ _ _ 21 [.ref (w.2.2 13), P_z 6, P_z 1] [P_z 1, P_z 6, .ref 1, P_z 1, .ref (w.2.2 28)] _ _ from ?_)
  refine P_aw_op (L' := [.ref (w.2.2 13), P_z 6, P_z 1]) (st' := [P_z 7, .ref 1, P_z 1, .ref (w.2.2 28)]) P_i82_21 P_o_iadd (show P_aw _ _ _ 22 [.ref (w.2.2 13), P_z 6, P_z 1] [P_z 7, .ref 1, P_z 1, .ref (w.2.2 28)] _ _ from ?_)
  refine P_aw_call P_i82_22 rfl rfl (fun _ => rfl) rfl rfl rfl rfl (y2 := 178) (as := [.ref 1, P_z 7]) (r0 := [P_z 1, .ref (w.2.2 28)]) (fun _ _ => rfl) (Nat.le_of_ble_eq_true rfl) (by decide) rfl (Nat.le_of_ble_eq_true rfl) (show P_aw _ _ _ 0 [.ref 1, P_z 7] [] _ _ from ?_)
  refine P_aw_op (L' := [.ref 1, P_z 7]) (st' := [P_z 7]) P_i178_0 rfl (show P_aw _ _ _ 1 [.ref 1, P_z 7] [P_z 7] _ _ from ?_)
  refine P_aw_izf P_i178_1 ⟨by decide, by decide⟩ (P_ci_ltf (by omega)) (show P_aw _ _ _ 4 [.ref 1, P_z 7] [] _ _ from ?_)
  refine P_aw_op (L' := [.ref 1, P_z 7]) (st' := [P_z 7]) P_i178_4 rfl (show P_aw _ _ _ 5 [.ref 1, P_z 7] [P_z 7] _ _ from ?_)
  refine P_aw_op (L' := [.ref 1, P_z 7]) (st' := [.ref 1, P_z 7]) P_i178_5 rfl (show P_aw _ _ _ 6 [.ref 1, P_z 7] [.ref 1, P_z 7] _ _ from ?_)
  refine P_aw_olen P_i178_6 (show P_aw _ _ _ 7 [.ref 1, P_z 7] [P_z 18, P_z 7] _ _ from ?_)
  refine P_aw_icf P_i178_7 ⟨by decide, by decide⟩ ⟨by decide, by decide⟩ (P_ci_gef (by omega)) (show P_aw _ _ _ 10 [.ref 1, P_z 7] [] _ _ from ?_)
  refine P_aw_op (L' := [.ref 1, P_z 7]) (st' := [.ref 1]) P_i178_10 rfl (show P_aw _ _ _ 11 [.ref 1, P_z 7] [.ref 1] _ _ from ?_)
  refine P_aw_op (L' := [.ref 1, P_z 7]) (st' := [P_z 7, .ref 1]) P_i178_11 rfl (show P_aw _ _ _ 12 [.ref 1, P_z 7] [P_z 7, .ref 1] _ _ from ?_)
  refine P_aw_oald P_i178_12 (by decide) (by decide) (by decide +kernel) (show P_aw _ _ _ 13 [.ref 1, P_z 7] [P_z 0] _ _ from ?_)
  refine P_aw_goto P_i178_13 (show P_aw _ _ _ 17 [.ref 1, P_z 7] [P_z 0] _ _ from ?_)
  refine P_aw_end P_i178_17 rfl rfl (fun _ => rfl) rfl ?_
  show P_aw _ _ _ 25 [.ref (w.2.2 13), P_z 6, P_z 1] [P_z 0, P_z 1, .ref (w.2.2 28)] _ _
  refine P_aw_ast P_i82_25 (hw.2.1 28 (by decide)) (hw.s rfl) (by omega) (by omega) (by decide) (show P_aw _ _ _ 26 [.ref (w.2.2 13), P_z 6, P_z 1] [] _ _ from ?_)
  refine P_aw_op (L' := [.ref (w.2.2 13), P_z 6, P_z 2]) (st' := []) P_i82_26 (P_o_iincv (x := 1) rfl (by decide)) (show P_aw _ _ _ 29 [.ref (w.2.2 13), P_z 6, P_z 2] [] _ _ from ?_)
  refine P_aw_goto P_i82_29 (show P_aw _ _ _ 2 [.ref (w.2.2 13), P_z 6, P_z 2] [] _ _ from ?_)
  refine P_aw_op (L' := [.ref (w.2.2 13), P_z 6, P_z 2]) (st' := [P_z 2]) P_i82_2 rfl (show P_aw _ _ _ 3 [.ref (w.2.2 13), P_z 6, P_z 2] [P_z 2] _ _ from ?_)
  refine P_aw_op (L' := [.ref (w.2.2 13), P_z 6, P_z 2]) (st' := [.ref (w.2.2 13), P_z 2]) P_i82_3 rfl (show P_aw _ _ _ 4 [.ref (w.2.2 13), P_z 6, P_z 2] [.ref (w.2.2 13), P_z 2] _ _ from ?_)
  refine P_aw_getR P_i82_4 (hw.2.1 13 (by decide)) (hw.s rfl) rfl rfl (show P_aw _ _ _ 7 [.ref (w.2.2 13), P_z 6, P_z 2] [.ref (w.2.2 28), P_z 2] _ _ from ?_)
  refine P_aw_alen P_i82_7 (hw.2.1 28 (by decide)) (hw.s rfl) (show P_aw _ _ _ 8 [.ref (w.2.2 13), P_z 6, P_z 2] [P_z 3, P_z 2] _ _ from ?_)
  refine P_aw_icf P_i82_8 ⟨by decide, by decide⟩ ⟨by decide, by decide⟩ (P_ci_gef (by omega)) (show P_aw _ _ _ 11 [.ref (w.2.2 13), P_z 6, P_z 2] [] _ _ from ?_)
  refine P_aw_op (L' := [.ref (w.2.2 13), P_z 6, P_z 2]) (st' := [.ref (w.2.2 13)]) P_i82_11 rfl (show P_aw _ _ _ 12 [.ref (w.2.2 13), P_z 6, P_z 2] [.ref (w.2.2 13)] _ _ from ?_)
  refine P_aw_getR P_i82_12 (hw.2.1 13 (by decide)) (hw.s rfl) rfl rfl (show P_aw _ _ _ 15 [.ref (w.2.2 13), P_z 6, P_z 2] [.ref (w.2.2 28)] _ _ from ?_)
  refine P_aw_op (L' := [.ref (w.2.2 13), P_z 6, P_z 2]) (st' := [P_z 2, .ref (w.2.2 28)]) P_i82_15 rfl (show P_aw _ _ _ 16 [.ref (w.2.2 13), P_z 6, P_z 2] [P_z 2, .ref (w.2.2 28)] _ _ from ?_)
  refine P_aw_gst P_i82_16 (show P_aw _ _ _ 19 [.ref (w.2.2 13), P_z 6, P_z 2] [.ref 1, P_z 2, .ref (w.2.2 28)] _ _ from ?_)
  refine P_aw_op (L' := [.ref (w.2.2 13), P_z 6, P_z 2]) (st' := [P_z 6, .ref 1, P_z 2, .ref (w.2.2 28)]) P_i82_19 rfl (show P_aw _ _ _ 20 [.ref (w.2.2 13), P_z 6, P_z 2] [P_z 6, .ref 1, P_z 2, .ref (w.2.2 28)] _ _ from ?_)
  refine P_aw_op (L' := [.ref (w.2.2 13), P_z 6, P_z 2]) (st' := [P_z 2, P_z 6, .ref 1, P_z 2, .ref (w.2.2 28)]) P_i82_20 rfl (show P_aw _ _ _ 21 [.ref (w.2.2 13), P_z 6, P_z 2] [P_z 2, P_z 6, .ref 1, P_z 2, .ref (w.2.2 28)] _ _ from ?_)
  refine P_aw_op (L' := [.ref (w.2.2 13), P_z 6, P_z 2]) (st' := [P_z 8, .ref 1, P_z 2, .ref (w.2.2 28)]) P_i82_21 P_o_iadd (show P_aw _ _ _ 22 [.ref (w.2.2 13), P_z 6, P_z 2] [P_z 8, .ref 1, P_z 2, .ref (w.2.2 28)] _ _ from ?_)
  refine P_aw_call P_i82_22 rfl rfl (fun _ => rfl) rfl rfl rfl rfl (y2 := 178) (as := [.ref 1, P_z 8]) (r0 := [P_z 2, .ref (w.2.2 28)]) (fun _ _ => rfl) (Nat.le_of_ble_eq_true rfl) (by decide) rfl (Nat.le_of_ble_eq_true rfl) (show P_aw _ _ _ 0 [.ref 1, P_z 8] [] _ _ from ?_)
  refine P_aw_op (L' := [.ref 1, P_z 8]) (st' := [P_z 8]) P_i178_0 rfl (show P_aw _ _ _ 1 [.ref 1, P_z 8] [P_z 8] _ _ from ?_)
  refine P_aw_izf P_i178_1 ⟨by decide, by decide⟩ (P_ci_ltf (by omega)) (show P_aw _ _ _ 4 [.ref 1, P_z 8] [] _ _ from ?_)
  refine P_aw_op (L' := [.ref 1, P_z 8]) (st' := [P_z 8]) P_i178_4 rfl (show P_aw _ _ _ 5 [.ref 1, P_z 8] [P_z 8] _ _ from ?_)
  refine P_aw_op (L' := [.ref 1, P_z 8]) (st' := [.ref 1, P_z 8]) P_i178_5 rfl (show P_aw _ _ _ 6 [.ref 1, P_z 8] [.ref 1, P_z 8] _ _ from ?_)
  refine P_aw_olen P_i178_6 (show P_aw _ _ _ 7 [.ref 1, P_z 8] [P_z 18, P_z 8] _ _ from ?_)
  refine P_aw_icf P_i178_7 ⟨by decide, by decide⟩ ⟨by decide, by decide⟩ (P_ci_gef (by omega)) (show P_aw _ _ _ 10 [.ref 1, P_z 8] [] _ _ from ?_)
  refine P_aw_op (L' := [.ref 1, P_z 8]) (st' := [.ref 1]) P_i178_10 rfl (show P_aw _ _ _ 11 [.ref 1, P_z 8] [.ref 1] _ _ from ?_)
  refine P_aw_op (L' := [.ref 1, P_z 8]) (st' := [P_z 8, .ref 1]) P_i178_11 rfl (show P_aw _ _ _ 12 [.ref 1, P_z 8] [P_z 8, .ref 1] _ _ from ?_)
  refine P_aw_oald P_i178_12 (by decide) (by decide) (by decide +kernel) (show P_aw _ _ _ 13 [.ref 1, P_z 8] [P_z 2] _ _ from ?_)
  refine P_aw_goto P_i178_13 (show P_aw _ _ _ 17 [.ref 1, P_z 8] [P_z 2] _ _ from ?_)
  refine P_aw_end P_i178_17 rfl rfl (fun _ => rfl) rfl ?_
  show P_aw _ _ _ 25 [.ref (w.2.2 13), P_z 6, P_z 2] [P_z 2, P_z 2, .ref (w.2.2 28)] _ _
  refine P_aw_ast P_i82_25 (hw.2.1 28 (by decide)) (hw.s rfl) (by omega) (by omega) (by decide) (show P_aw _ _ _ 26 [.ref (w.2.2 13), P_z 6, P_z 2] [] _ _ from ?_)
  refine P_aw_op (L' := [.ref (w.2.2 13), P_z 6, P_z 3]) (st' := []) P_i82_26 (P_o_iincv (x := 2) rfl (by decide)) (show P_aw _ _ _ 29 [.ref (w.2.2 13), P_z 6, P_z 3] [] _ _ from ?_)
  refine P_aw_goto P_i82_29 (show P_aw _ _ _ 2 [.ref (w.2.2 13), P_z 6, P_z 3] [] _ _ from ?_)
  refine P_aw_op (L' := [.ref (w.2.2 13), P_z 6, P_z 3]) (st' := [P_z 3]) P_i82_2 rfl (show P_aw _ _ _ 3 [.ref (w.2.2 13), P_z 6, P_z 3] [P_z 3] _ _ from ?_)
  refine P_aw_op (L' := [.ref (w.2.2 13), P_z 6, P_z 3]) (st' := [.ref (w.2.2 13), P_z 3]) P_i82_3 rfl (show P_aw _ _ _ 4 [.ref (w.2.2 13), P_z 6, P_z 3] [.ref (w.2.2 13), P_z 3] _ _ from ?_)
  refine P_aw_getR P_i82_4 (hw.2.1 13 (by decide)) (hw.s rfl) rfl rfl (show P_aw _ _ _ 7 [.ref (w.2.2 13), P_z 6, P_z 3] [.ref (w.2.2 28), P_z 3] _ _ from ?_)
  refine P_aw_alen P_i82_7 (hw.2.1 28 (by decide)) (hw.s rfl) (show P_aw _ _ _ 8 [.ref (w.2.2 13), P_z 6, P_z 3] [P_z 3, P_z 3] _ _ from ?_)
  refine P_aw_ict P_i82_8 ⟨by decide, by decide⟩ ⟨by decide, by decide⟩ (P_ci_get (by omega)) (show P_aw _ _ _ 32 [.ref (w.2.2 13), P_z 6, P_z 3] [] _ _ from ?_)
  refine P_aw_op (L' := [.ref (w.2.2 13), P_z 6, P_z 3]) (st' := [P_z 0]) P_i82_32 rfl (show P_aw _ _ _ 33 [.ref (w.2.2 13), P_z 6, P_z 3] [P_z 0] _ _ from ?_)
  refine P_aw_op (L' := [.ref (w.2.2 13), P_z 6, P_z 0]) (st' := []) P_i82_33 rfl (show P_aw _ _ _ 34 [.ref (w.2.2 13), P_un, P_z 0] [] _ _ from ?_)
  refine P_aws (σ' := A_lev (A_o3 σ (A_od 6 0) (A_od 6 1) (A_od 6 2)) 0 (fun i => A_low (A_od 6) (cL i) (cR i))) (A_lev_0 (σ := A_o3 σ (A_od 6 0) (A_od 6 1) (A_od 6 2))).symm ?_
  exact s_bil (σ := A_o3 σ (A_od 6 0) (A_od 6 1) (A_od 6 2)) (od := A_od 6) hw hns (A_o3_O (A_isO_od hs hns)) (A_C_cg (cV' := cV) (A_o3_ne (by omega)) (fun a b h1 h2 h3 => A_o3_ne (by omega)) (fun i h0 h1 => ⟨(A_o3_ne (by omega)).trans (hC.2.2 i h0 h1).1.2.2.2, (hC.2.2 i h0 h1).2.2.2.2⟩) hC) sz.toNat 0 (by omega) (by omega) q

theorem s_bi9 {w : P_Lw} (hw : P_Cw w) {d : Nat} {Q : P_R → P_A → Prop} {σ : P_A} {ns : Int} (hns : 1 ≤ ns ∧ ns ≤ 3) {sz : Int} {cL cS cR cV : Int → Int} (hC : A_C σ ns sz cL cS cR cV) (hs : A_isO ns 9) (q : Q (.inl none) (A_bi σ 9 sz cL cR)) : P_aw w (d + 2) 82 0 [.ref (w.2.2 13), P_z 9, P_un] [] σ Q := by
  have hsz := hC.2.1
  refine P_aw_op (L' := [.ref (w.2.2 13), P_z 9, P_un]) (st' := [P_z 0]) P_i82_0 rfl (show P_aw _ _ _ 1 [.ref (w.2.2 13), P_z 9, P_un] [P_z 0] _ _ from ?_)
  refine P_aw_op (L' := [.ref (w.2.2 13), P_z 9, P_z 0]) (st' := []) P_i82_1 rfl (show P_aw _ _ _ 2 [.ref (w.2.2 13), P_z 9, P_z 0] [] _ _ from ?_)
  refine P_aw_op (L' := [.ref (w.2.2 13), P_z 9, P_z 0]) (st' := [P_z 0]) P_i82_2 rfl (show P_aw _ _ _ 3 [.ref (w.2.2 13), P_z 9, P_z 0] [P_z 0] _ _ from ?_)
  refine P_aw_op (L' := [.ref (w.2.2 13), P_z 9, P_z 0]) (st' := [.ref (w.2.2 13), P_z 0]) P_i82_3 rfl (show P_aw _ _ _ 4 [.ref (w.2.2 13), P_z 9, P_z 0] [.ref (w.2.2 13), P_z 0] _ _ from ?_)
  refine P_aw_getR P_i82_4 (hw.2.1 13 (by decide)) (hw.s rfl) rfl rfl (show P_aw _ _ _ 7 [.ref (w.2.2 13), P_z 9, P_z 0] [.ref (w.2.2 28), P_z 0] _ _ from ?_)
  refine P_aw_alen P_i82_7 (hw.2.1 28 (by decide)) (hw.s rfl) (show P_aw _ _ _ 8 [.ref (w.2.2 13), P_z 9, P_z 0] [P_z 3, P_z 0] _ _ from ?_)
  refine P_aw_icf P_i82_8 ⟨by decide, by decide⟩ ⟨by decide, by decide⟩ (P_ci_gef (by omega)) (show P_aw _ _ _ 11 [.ref (w.2.2 13), P_z 9, P_z 0] [] _ _ from ?_)
  refine P_aw_op (L' := [.ref (w.2.2 13), P_z 9, P_z 0]) (st' := [.ref (w.2.2 13)]) P_i82_11 rfl (show P_aw _ _ _ 12 [.ref (w.2.2 13), P_z 9, P_z 0] [.ref (w.2.2 13)] _ _ from ?_)
  refine P_aw_getR P_i82_12 (hw.2.1 13 (by decide)) (hw.s rfl) rfl rfl (show P_aw _ _ _ 15 [.ref (w.2.2 13), P_z 9, P_z 0] [.ref (w.2.2 28)] _ _ from ?_)
  refine P_aw_op (L' := [.ref (w.2.2 13), P_z 9, P_z 0]) (st' := [P_z 0, .ref (w.2.2 28)]) P_i82_15 rfl (show P_aw _ _ _ 16 [.ref (w.2.2 13), P_z 9, P_z 0] [P_z 0, .ref (w.2.2 28)] _ _ from ?_)
  refine P_aw_gst P_i82_16 (show P_aw _ _ _ 19 [.ref (w.2.2 13), P_z 9, P_z 0] [.ref 1, P_z 0, .ref (w.2.2 28)] _ _ from ?_)
  refine P_aw_op (L' := [.ref (w.2.2 13), P_z 9, P_z 0]) (st' := [P_z 9, .ref 1, P_z 0, .ref (w.2.2 28)]) P_i82_19 rfl (show P_aw _ _ _ 20 [.ref (w.2.2 13), P_z 9, P_z 0] [P_z 9, .ref 1, P_z 0, .ref (w.2.2 28)] _ _ from ?_)
  refine P_aw_op (L' := [.ref (w.2.2 13), P_z 9, P_z 0]) (st' := [P_z 0, P_z 9, .ref 1, P_z 0, .ref (w.2.2 28)]) P_i82_20 rfl (show P_aw _ _ _ 21 [.ref (w.2.2 13), P_z 9, P_z 0] [P_z 0, P_z 9, .ref 1, P_z 0, .ref (w.2.2 28)] _ _ from ?_)
  refine P_aw_op (L' := [.ref (w.2.2 13), P_z 9, P_z 0]) (st' := [P_z 9, .ref 1, P_z 0, .ref (w.2.2 28)]) P_i82_21 P_o_iadd (show P_aw _ _ _ 22 [.ref (w.2.2 13), P_z 9, P_z 0] [P_z 9, .ref 1, P_z 0, .ref (w.2.2 28)] _ _ from ?_)
  refine P_aw_call P_i82_22 rfl rfl (fun _ => rfl) rfl rfl rfl rfl (y2 := 178) (as := [.ref 1, P_z 9]) (r0 := [P_z 0, .ref (w.2.2 28)]) (fun _ _ => rfl) (Nat.le_of_ble_eq_true rfl) (by decide) rfl (Nat.le_of_ble_eq_true rfl) (show P_aw _ _ _ 0 [.ref 1, P_z 9] [] _ _ from ?_)
  refine P_aw_op (L' := [.ref 1, P_z 9]) (st' := [P_z 9]) P_i178_0 rfl (show P_aw _ _ _ 1 [.ref 1, P_z 9] [P_z 9] _ _ from ?_)
  refine P_aw_izf P_i178_1 ⟨by decide, by decide⟩ (P_ci_ltf (by omega)) (show P_aw _ _ _ 4 [.ref 1, P_z 9] [] _ _ from ?_)
  refine P_aw_op (L' := [.ref 1, P_z 9]) (st' := [P_z 9]) P_i178_4 rfl (show P_aw _ _ _ 5 [.ref 1, P_z 9] [P_z 9] _ _ from ?_)
  refine P_aw_op (L' := [.ref 1, P_z 9]) (st' := [.ref 1, P_z 9]) P_i178_5 rfl (show P_aw _ _ _ 6 [.ref 1, P_z 9] [.ref 1, P_z 9] _ _ from ?_)
  refine P_aw_olen P_i178_6 (show P_aw _ _ _ 7 [.ref 1, P_z 9] [P_z 18, P_z 9] _ _ from ?_)
  refine P_aw_icf P_i178_7 ⟨by decide, by decide⟩ ⟨by decide, by decide⟩ (P_ci_gef (by omega)) (show P_aw _ _ _ 10 [.ref 1, P_z 9] [] _ _ from ?_)
  refine P_aw_op (L' := [.ref 1, P_z 9]) (st' := [.ref 1]) P_i178_10 rfl (show P_aw _ _ _ 11 [.ref 1, P_z 9] [.ref 1] _ _ from ?_)
  refine P_aw_op (L' := [.ref 1, P_z 9]) (st' := [P_z 9, .ref 1]) P_i178_11 rfl (show P_aw _ _ _ 12 [.ref 1, P_z 9] [P_z 9, .ref 1] _ _ from ?_)
  refine P_aw_oald P_i178_12 (by decide) (by decide) (by decide +kernel) (show P_aw _ _ _ 13 [.ref 1, P_z 9] [P_z 1] _ _ from ?_)
  refine P_aw_goto P_i178_13 (show P_aw _ _ _ 17 [.ref 1, P_z 9] [P_z 1] _ _ from ?_)
  refine P_aw_end P_i178_17 rfl rfl (fun _ => rfl) rfl ?_
  show P_aw _ _ _ 25 [.ref (w.2.2 13), P_z 9, P_z 0] [P_z 1, P_z 0, .ref (w.2.2 28)] _ _
  refine P_aw_ast P_i82_25 (hw.2.1 28 (by decide)) (hw.s rfl) (by omega) (by omega) (by decide) (show P_aw _ _ _ 26 [.ref (w.2.2 13), P_z 9, P_z 0] [] _ _ from ?_)
  refine P_aw_op (L' := [.ref (w.2.2 13), P_z 9, P_z 1]) (st' := []) P_i82_26 (P_o_iincv (x := 0) rfl (by decide)) (show P_aw _ _ _ 29 [.ref (w.2.2 13), P_z 9, P_z 1] [] _ _ from ?_)
  refine P_aw_goto P_i82_29 (show P_aw _ _ _ 2 [.ref (w.2.2 13), P_z 9, P_z 1] [] _ _ from ?_)
  refine P_aw_op (L' := [.ref (w.2.2 13), P_z 9, P_z 1]) (st' := [P_z 1]) P_i82_2 rfl (show P_aw _ _ _ 3 [.ref (w.2.2 13), P_z 9, P_z 1] [P_z 1] _ _ from ?_)
  refine P_aw_op (L' := [.ref (w.2.2 13), P_z 9, P_z 1]) (st' := [.ref (w.2.2 13), P_z 1]) P_i82_3 rfl (show P_aw _ _ _ 4 [.ref (w.2.2 13), P_z 9, P_z 1] [.ref (w.2.2 13), P_z 1] _ _ from ?_)
  refine P_aw_getR P_i82_4 (hw.2.1 13 (by decide)) (hw.s rfl) rfl rfl (show P_aw _ _ _ 7 [.ref (w.2.2 13), P_z 9, P_z 1] [.ref (w.2.2 28), P_z 1] _ _ from ?_)
  refine P_aw_alen P_i82_7 (hw.2.1 28 (by decide)) (hw.s rfl) (show P_aw _ _ _ 8 [.ref (w.2.2 13), P_z 9, P_z 1] [P_z 3, P_z 1] _ _ from ?_)
  refine P_aw_icf P_i82_8 ⟨by decide, by decide⟩ ⟨by decide, by decide⟩ (P_ci_gef (by omega)) (show P_aw _ _ _ 11 [.ref (w.2.2 13), P_z 9, P_z 1] [] _ _ from ?_)
  refine P_aw_op (L' := [.ref (w.2.2 13), P_z 9, P_z 1]) (st' := [.ref (w.2.2 13)]) P_i82_11 rfl (show P_aw _ _ _ 12 [.ref (w.2.2 13), P_z 9, P_z 1] [.ref (w.2.2 13)] _ _ from ?_)
  refine P_aw_getR P_i82_12 (hw.2.1 13 (by decide)) (hw.s rfl) rfl rfl (show P_aw _ _ _ 15 [.ref (w.2.2 13), P_z 9, P_z 1] [.ref (w.2.2 28)] _ _ from ?_)
  refine P_aw_op (L' := [.ref (w.2.2 13), P_z 9, P_z 1]) (st' := [P_z 1, .ref (w.2.2 28)]) P_i82_15 rfl (show P_aw _ _ _ 16 [.ref (w.2.2 13), P_z 9, P_z 1] [P_z 1, .ref (w.2.2 28)] _ _ from ?_)
  refine P_aw_gst P_i82_16 (show P_aw _ _ _ 19 [.ref (w.2.2 13), P_z 9, P_z 1] [.ref 1, P_z 1, .ref (w.2.2 28)] _ _ from ?_)
  refine P_aw_op (L' := [.ref (w.2.2 13), P_z 9, P_z 1]) (st' := [P_z 9, .ref 1, P_z 1, .ref (w.2.2 28)]) P_i82_19 rfl (show P_aw _ _ _ 20 [.ref (w.2.2 13), P_z 9, P_z 1] [P_z 9, .ref 1, P_z 1, .ref (w.2.2 28)] _ _ from ?_)
  refine P_aw_op (L' := [.ref (w.2.2 13), P_z 9, P_z 1]) (st' := [P_z 1, P_z 9, .ref 1, P_z 1, .ref (w.2.2 28)]) P_i82_20 rfl (show P_aw _ _ _ 21 [.ref (w.2.2 13), P_z 9, P_z 1] [P_z 1, P_z 9, .ref 1, P_z 1, .ref (w.2.2 28)] _ _ from ?_)
  refine P_aw_op (L' := [.ref (w.2.2 13), P_z 9, P_z 1]) (st' := [P_z 10, .ref 1, P_z 1, .ref (w.2.2 28)]) P_i82_21 P_o_iadd (show P_aw _ _ _ 22 [.ref (w.2.2 13), P_z 9, P_z 1] [P_z 10, .ref 1, P_z 1, .ref (w.2.2 28)] _ _ from ?_)
  refine P_aw_call P_i82_22 rfl rfl (fun _ => rfl) rfl rfl rfl rfl (y2 := 178) (as := [.ref 1, P_z 10]) (r0 := [P_z 1, .ref (w.2.2 28)]) (fun _ _ => rfl) (Nat.le_of_ble_eq_true rfl) (by decide) rfl (Nat.le_of_ble_eq_true rfl) (show P_aw _ _ _ 0 [.ref 1, P_z 10] [] _ _ from ?_)
  refine P_aw_op (L' := [.ref 1, P_z 10]) (st' := [P_z 10]) P_i178_0 rfl (show P_aw _ _ _ 1 [.ref 1, P_z 10] [P_z 10] _ _ from ?_)
  refine P_aw_izf P_i178_1 ⟨by decide, by decide⟩ (P_ci_ltf (by omega)) (show P_aw _ _ _ 4 [.ref 1, P_z 10] [] _ _ from ?_)
  refine P_aw_op (L' := [.ref 1, P_z 10]) (st' := [P_z 10]) P_i178_4 rfl (show P_aw _ _ _ 5 [.ref 1, P_z 10] [P_z 10] _ _ from ?_)
  refine P_aw_op (L' := [.ref 1, P_z 10]) (st' := [.ref 1, P_z 10]) P_i178_5 rfl (show P_aw _ _ _ 6 [.ref 1, P_z 10] [.ref 1, P_z 10] _ _ from ?_)
  refine P_aw_olen P_i178_6 (show P_aw _ _ _ 7 [.ref 1, P_z 10] [P_z 18, P_z 10] _ _ from ?_)
  refine P_aw_icf P_i178_7 ⟨by decide, by decide⟩ ⟨by decide, by decide⟩ (P_ci_gef (by omega)) (show P_aw _ _ _ 10 [.ref 1, P_z 10] [] _ _ from ?_)
  refine P_aw_op (L' := [.ref 1, P_z 10]) (st' := [.ref 1]) P_i178_10 rfl (show P_aw _ _ _ 11 [.ref 1, P_z 10] [.ref 1] _ _ from ?_)
  refine P_aw_op (L' := [.ref 1, P_z 10]) (st' := [P_z 10, .ref 1]) P_i178_11 rfl (show P_aw _ _ _ 12 [.ref 1, P_z 10] [P_z 10, .ref 1] _ _ from ?_)
  refine P_aw_oald P_i178_12 (by decide) (by decide) (by decide +kernel) (show P_aw _ _ _ 13 [.ref 1, P_z 10] [P_z 2] _ _ from ?_)
  refine P_aw_goto P_i178_13 (show P_aw _ _ _ 17 [.ref 1, P_z 10] [P_z 2] _ _ from ?_)
  refine P_aw_end P_i178_17 rfl rfl (fun _ => rfl) rfl ?_
  show P_aw _ _ _ 25 [.ref (w.2.2 13), P_z 9, P_z 1] [P_z 2, P_z 1, .ref (w.2.2 28)] _ _
  refine P_aw_ast P_i82_25 (hw.2.1 28 (by decide)) (hw.s rfl) (by omega) (by omega) (by decide) (show P_aw _ _ _ 26 [.ref (w.2.2 13), P_z 9, P_z 1] [] _ _ from ?_)
  refine P_aw_op (L' := [.ref (w.2.2 13), P_z 9, P_z 2]) (st' := []) P_i82_26 (P_o_iincv (x := 1) rfl (by decide)) (show P_aw _ _ _ 29 [.ref (w.2.2 13), P_z 9, P_z 2] [] _ _ from ?_)
  refine P_aw_goto P_i82_29 (show P_aw _ _ _ 2 [.ref (w.2.2 13), P_z 9, P_z 2] [] _ _ from ?_)
  refine P_aw_op (L' := [.ref (w.2.2 13), P_z 9, P_z 2]) (st' := [P_z 2]) P_i82_2 rfl (show P_aw _ _ _ 3 [.ref (w.2.2 13), P_z 9, P_z 2] [P_z 2] _ _ from ?_)
  refine P_aw_op (L' := [.ref (w.2.2 13), P_z 9, P_z 2]) (st' := [.ref (w.2.2 13), P_z 2]) P_i82_3 rfl (show P_aw _ _ _ 4 [.ref (w.2.2 13), P_z 9, P_z 2] [.ref (w.2.2 13), P_z 2] _ _ from ?_)
  refine P_aw_getR P_i82_4 (hw.2.1 13 (by decide)) (hw.s rfl) rfl rfl (show P_aw _ _ _ 7 [.ref (w.2.2 13), P_z 9, P_z 2] [.ref (w.2.2 28), P_z 2] _ _ from ?_)
  refine P_aw_alen P_i82_7 (hw.2.1 28 (by decide)) (hw.s rfl) (show P_aw _ _ _ 8 [.ref (w.2.2 13), P_z 9, P_z 2] [P_z 3, P_z 2] _ _ from ?_)
  refine P_aw_icf P_i82_8 ⟨by decide, by decide⟩ ⟨by decide, by decide⟩ (P_ci_gef (by omega)) (show P_aw _ _ _ 11 [.ref (w.2.2 13), P_z 9, P_z 2] [] _ _ from ?_)
  refine P_aw_op (L' := [.ref (w.2.2 13), P_z 9, P_z 2]) (st' := [.ref (w.2.2 13)]) P_i82_11 rfl (show P_aw _ _ _ 12 [.ref (w.2.2 13), P_z 9, P_z 2] [.ref (w.2.2 13)] _ _ from ?_)
  refine P_aw_getR P_i82_12 (hw.2.1 13 (by decide)) (hw.s rfl) rfl rfl (show P_aw _ _ _ 15 [.ref (w.2.2 13), P_z 9, P_z 2] [.ref (w.2.2 28)] _ _ from ?_)
  refine P_aw_op (L' := [.ref (w.2.2 13), P_z 9, P_z 2]) (st' := [P_z 2, .ref (w.2.2 28)]) P_i82_15 rfl (show P_aw _ _ _ 16 [.ref (w.2.2 13), P_z 9, P_z 2] [P_z 2, .ref (w.2.2 28)] _ _ from ?_)
  refine P_aw_gst P_i82_16 (show P_aw _ _ _ 19 [.ref (w.2.2 13), P_z 9, P_z 2] [.ref 1, P_z 2, .ref (w.2.2 28)] _ _ from ?_)
  refine P_aw_op (L' := [.ref (w.2.2 13), P_z 9, P_z 2]) (st' := [P_z 9, .ref 1, P_z 2, .ref (w.2.2 28)]) P_i82_19 rfl (show P_aw _ _ _ 20 [.ref (w.2.2 13), P_z 9, P_z 2] [P_z 9, .ref 1, P_z 2, .ref (w.2.2 28)] _ _ from ?_)
  refine P_aw_op (L' := [.ref (w.2.2 13), P_z 9, P_z 2]) (st' := [P_z 2, P_z 9, .ref 1, P_z 2, .ref (w.2.2 28)]) P_i82_20 rfl (show P_aw _ _ _ 21 [.ref (w.2.2 13), P_z 9, P_z 2] [P_z 2, P_z 9, .ref 1, P_z 2, .ref (w.2.2 28)] _ _ from ?_)
  refine P_aw_op (L' := [.ref (w.2.2 13), P_z 9, P_z 2]) (st' := [P_z 11, .ref 1, P_z 2, .ref (w.2.2 28)]) P_i82_21 P_o_iadd (show P_aw _ _ _ 22 [.ref (w.2.2 13), P_z 9, P_z 2] [P_z 11, .ref 1, P_z 2, .ref (w.2.2 28)] _ _ from ?_)
  refine P_aw_call P_i82_22 rfl rfl (fun _ => rfl) rfl rfl rfl rfl (y2 := 178) (as := [.ref 1, P_z 11]) (r0 := [P_z 2, .ref (w.2.2 28)]) (fun _ _ => rfl) (Nat.le_of_ble_eq_true rfl) (by decide) rfl (Nat.le_of_ble_eq_true rfl) (show P_aw _ _ _ 0 [.ref 1, P_z 11] [] _ _ from ?_)
  refine P_aw_op (L' := [.ref 1, P_z 11]) (st' := [P_z 11]) P_i178_0 rfl (show P_aw _ _ _ 1 [.ref 1, P_z 11] [P_z 11] _ _ from ?_)
  refine P_aw_izf P_i178_1 ⟨by decide, by decide⟩ (P_ci_ltf (by omega)) (show P_aw _ _ _ 4 [.ref 1, P_z 11] [] _ _ from ?_)
  refine P_aw_op (L' := [.ref 1, P_z 11]) (st' := [P_z 11]) P_i178_4 rfl (show P_aw _ _ _ 5 [.ref 1, P_z 11] [P_z 11] _ _ from ?_)
  refine P_aw_op (L' := [.ref 1, P_z 11]) (st' := [.ref 1, P_z 11]) P_i178_5 rfl (show P_aw _ _ _ 6 [.ref 1, P_z 11] [.ref 1, P_z 11] _ _ from ?_)
  refine P_aw_olen P_i178_6 (show P_aw _ _ _ 7 [.ref 1, P_z 11] [P_z 18, P_z 11] _ _ from ?_)
  refine P_aw_icf P_i178_7 ⟨by decide, by decide⟩ ⟨by decide, by decide⟩ (P_ci_gef (by omega)) (show P_aw _ _ _ 10 [.ref 1, P_z 11] [] _ _ from ?_)
  refine P_aw_op (L' := [.ref 1, P_z 11]) (st' := [.ref 1]) P_i178_10 rfl (show P_aw _ _ _ 11 [.ref 1, P_z 11] [.ref 1] _ _ from ?_)
  refine P_aw_op (L' := [.ref 1, P_z 11]) (st' := [P_z 11, .ref 1]) P_i178_11 rfl (show P_aw _ _ _ 12 [.ref 1, P_z 11] [P_z 11, .ref 1] _ _ from ?_)
  refine P_aw_oald P_i178_12 (by decide) (by decide) (by decide +kernel) (show P_aw _ _ _ 13 [.ref 1, P_z 11] [P_z 0] _ _ from ?_)
  refine P_aw_goto P_i178_13 (show P_aw _ _ _ 17 [.ref 1, P_z 11] [P_z 0] _ _ from ?_)
  refine P_aw_end P_i178_17 rfl rfl (fun _ => rfl) rfl ?_
  show P_aw _ _ _ 25 [.ref (w.2.2 13), P_z 9, P_z 2] [P_z 0, P_z 2, .ref (w.2.2 28)] _ _
  refine P_aw_ast P_i82_25 (hw.2.1 28 (by decide)) (hw.s rfl) (by omega) (by omega) (by decide) (show P_aw _ _ _ 26 [.ref (w.2.2 13), P_z 9, P_z 2] [] _ _ from ?_)
  refine P_aw_op (L' := [.ref (w.2.2 13), P_z 9, P_z 3]) (st' := []) P_i82_26 (P_o_iincv (x := 2) rfl (by decide)) (show P_aw _ _ _ 29 [.ref (w.2.2 13), P_z 9, P_z 3] [] _ _ from ?_)
  refine P_aw_goto P_i82_29 (show P_aw _ _ _ 2 [.ref (w.2.2 13), P_z 9, P_z 3] [] _ _ from ?_)
  refine P_aw_op (L' := [.ref (w.2.2 13), P_z 9, P_z 3]) (st' := [P_z 3]) P_i82_2 rfl (show P_aw _ _ _ 3 [.ref (w.2.2 13), P_z 9, P_z 3] [P_z 3] _ _ from ?_)
  refine P_aw_op (L' := [.ref (w.2.2 13), P_z 9, P_z 3]) (st' := [.ref (w.2.2 13), P_z 3]) P_i82_3 rfl (show P_aw _ _ _ 4 [.ref (w.2.2 13), P_z 9, P_z 3] [.ref (w.2.2 13), P_z 3] _ _ from ?_)
  refine P_aw_getR P_i82_4 (hw.2.1 13 (by decide)) (hw.s rfl) rfl rfl (show P_aw _ _ _ 7 [.ref (w.2.2 13), P_z 9, P_z 3] [.ref (w.2.2 28), P_z 3] _ _ from ?_)
  refine P_aw_alen P_i82_7 (hw.2.1 28 (by decide)) (hw.s rfl) (show P_aw _ _ _ 8 [.ref (w.2.2 13), P_z 9, P_z 3] [P_z 3, P_z 3] _ _ from ?_)
  refine P_aw_ict P_i82_8 ⟨by decide, by decide⟩ ⟨by decide, by decide⟩ (P_ci_get (by omega)) (show P_aw _ _ _ 32 [.ref (w.2.2 13), P_z 9, P_z 3] [] _ _ from ?_)
  refine P_aw_op (L' := [.ref (w.2.2 13), P_z 9, P_z 3]) (st' := [P_z 0]) P_i82_32 rfl (show P_aw _ _ _ 33 [.ref (w.2.2 13), P_z 9, P_z 3] [P_z 0] _ _ from ?_)
  refine P_aw_op (L' := [.ref (w.2.2 13), P_z 9, P_z 0]) (st' := []) P_i82_33 rfl (show P_aw _ _ _ 34 [.ref (w.2.2 13), P_un, P_z 0] [] _ _ from ?_)
  refine P_aws (σ' := A_lev (A_o3 σ (A_od 9 0) (A_od 9 1) (A_od 9 2)) 0 (fun i => A_low (A_od 9) (cL i) (cR i))) (A_lev_0 (σ := A_o3 σ (A_od 9 0) (A_od 9 1) (A_od 9 2))).symm ?_
  exact s_bil (σ := A_o3 σ (A_od 9 0) (A_od 9 1) (A_od 9 2)) (od := A_od 9) hw hns (A_o3_O (A_isO_od hs hns)) (A_C_cg (cV' := cV) (A_o3_ne (by omega)) (fun a b h1 h2 h3 => A_o3_ne (by omega)) (fun i h0 h1 => ⟨(A_o3_ne (by omega)).trans (hC.2.2 i h0 h1).1.2.2.2, (hC.2.2 i h0 h1).2.2.2.2⟩) hC) sz.toNat 0 (by omega) (by omega) q

theorem s_bi12 {w : P_Lw} (hw : P_Cw w) {d : Nat} {Q : P_R → P_A → Prop} {σ : P_A} {ns : Int} (hns : 1 ≤ ns ∧ ns ≤ 3) {sz : Int} {cL cS cR cV : Int → Int} (hC : A_C σ ns sz cL cS cR cV) (hs : A_isO ns 12) (q : Q (.inl none) (A_bi σ 12 sz cL cR)) : P_aw w (d + 2) 82 0 [.ref (w.2.2 13), P_z 12, P_un] [] σ Q := by
  have hsz := hC.2.1
  refine P_aw_op (L' := [.ref (w.2.2 13), P_z 12, P_un]) (st' := [P_z 0]) P_i82_0 rfl (show P_aw _ _ _ 1 [.ref (w.2.2 13), P_z 12, P_un] [P_z 0] _ _ from ?_)
  refine P_aw_op (L' := [.ref (w.2.2 13), P_z 12, P_z 0]) (st' := []) P_i82_1 rfl (show P_aw _ _ _ 2 [.ref (w.2.2 13), P_z 12, P_z 0] [] _ _ from ?_)
  refine P_aw_op (L' := [.ref (w.2.2 13), P_z 12, P_z 0]) (st' := [P_z 0]) P_i82_2 rfl (show P_aw _ _ _ 3 [.ref (w.2.2 13), P_z 12, P_z 0] [P_z 0] _ _ from ?_)
  refine P_aw_op (L' := [.ref (w.2.2 13), P_z 12, P_z 0]) (st' := [.ref (w.2.2 13), P_z 0]) P_i82_3 rfl (show P_aw _ _ _ 4 [.ref (w.2.2 13), P_z 12, P_z 0] [.ref (w.2.2 13), P_z 0] _ _ from ?_)
  refine P_aw_getR P_i82_4 (hw.2.1 13 (by decide)) (hw.s rfl) rfl rfl (show P_aw _ _ _ 7 [.ref (w.2.2 13), P_z 12, P_z 0] [.ref (w.2.2 28), P_z 0] _ _ from ?_)
  refine P_aw_alen P_i82_7 (hw.2.1 28 (by decide)) (hw.s rfl) (show P_aw _ _ _ 8 [.ref (w.2.2 13), P_z 12, P_z 0] [P_z 3, P_z 0] _ _ from ?_)
  refine P_aw_icf P_i82_8 ⟨by decide, by decide⟩ ⟨by decide, by decide⟩ (P_ci_gef (by omega)) (show P_aw _ _ _ 11 [.ref (w.2.2 13), P_z 12, P_z 0] [] _ _ from ?_)
  refine P_aw_op (L' := [.ref (w.2.2 13), P_z 12, P_z 0]) (st' := [.ref (w.2.2 13)]) P_i82_11 rfl (show P_aw _ _ _ 12 [.ref (w.2.2 13), P_z 12, P_z 0] [.ref (w.2.2 13)] _ _ from ?_)
  refine P_aw_getR P_i82_12 (hw.2.1 13 (by decide)) (hw.s rfl) rfl rfl (show P_aw _ _ _ 15 [.ref (w.2.2 13), P_z 12, P_z 0] [.ref (w.2.2 28)] _ _ from ?_)
  refine P_aw_op (L' := [.ref (w.2.2 13), P_z 12, P_z 0]) (st' := [P_z 0, .ref (w.2.2 28)]) P_i82_15 rfl (show P_aw _ _ _ 16 [.ref (w.2.2 13), P_z 12, P_z 0] [P_z 0, .ref (w.2.2 28)] _ _ from ?_)
  refine P_aw_gst P_i82_16 (show P_aw _ _ _ 19 [.ref (w.2.2 13), P_z 12, P_z 0] [.ref 1, P_z 0, .ref (w.2.2 28)] _ _ from ?_)
  refine P_aw_op (L' := [.ref (w.2.2 13), P_z 12, P_z 0]) (st' := [P_z 12, .ref 1, P_z 0, .ref (w.2.2 28)]) P_i82_19 rfl (show P_aw _ _ _ 20 [.ref (w.2.2 13), P_z 12, P_z 0] [P_z 12, .ref 1, P_z 0, .ref (w.2.2 28)] _ _ from ?_)
  refine P_aw_op (L' := [.ref (w.2.2 13), P_z 12, P_z 0]) (st' := [P_z 0, P_z 12, .ref 1, P_z 0, .ref (w.2.2 28)]) P_i82_20 rfl (show P_aw _ _ _ 21 [.ref (w.2.2 13), P_z 12, P_z 0] [P_z 0, P_z 12, .ref 1, P_z 0, .ref (w.2.2 28)] _ _ from ?_)
  refine P_aw_op (L' := [.ref (w.2.2 13), P_z 12, P_z 0]) (st' := [P_z 12, .ref 1, P_z 0, .ref (w.2.2 28)]) P_i82_21 P_o_iadd (show P_aw _ _ _ 22 [.ref (w.2.2 13), P_z 12, P_z 0] [P_z 12, .ref 1, P_z 0, .ref (w.2.2 28)] _ _ from ?_)
  refine P_aw_call P_i82_22 rfl rfl (fun _ => rfl) rfl rfl rfl rfl (y2 := 178) (as := [.ref 1, P_z 12]) (r0 := [P_z 0, .ref (w.2.2 28)]) (fun _ _ => rfl) (Nat.le_of_ble_eq_true rfl) (by decide) rfl (Nat.le_of_ble_eq_true rfl) (show P_aw _ _ _ 0 [.ref 1, P_z 12] [] _ _ from ?_)
  refine P_aw_op (L' := [.ref 1, P_z 12]) (st' := [P_z 12]) P_i178_0 rfl (show P_aw _ _ _ 1 [.ref 1, P_z 12] [P_z 12] _ _ from ?_)
  refine P_aw_izf P_i178_1 ⟨by decide, by decide⟩ (P_ci_ltf (by omega)) (show P_aw _ _ _ 4 [.ref 1, P_z 12] [] _ _ from ?_)
  refine P_aw_op (L' := [.ref 1, P_z 12]) (st' := [P_z 12]) P_i178_4 rfl (show P_aw _ _ _ 5 [.ref 1, P_z 12] [P_z 12] _ _ from ?_)
  refine P_aw_op (L' := [.ref 1, P_z 12]) (st' := [.ref 1, P_z 12]) P_i178_5 rfl (show P_aw _ _ _ 6 [.ref 1, P_z 12] [.ref 1, P_z 12] _ _ from ?_)
  refine P_aw_olen P_i178_6 (show P_aw _ _ _ 7 [.ref 1, P_z 12] [P_z 18, P_z 12] _ _ from ?_)
  refine P_aw_icf P_i178_7 ⟨by decide, by decide⟩ ⟨by decide, by decide⟩ (P_ci_gef (by omega)) (show P_aw _ _ _ 10 [.ref 1, P_z 12] [] _ _ from ?_)
  refine P_aw_op (L' := [.ref 1, P_z 12]) (st' := [.ref 1]) P_i178_10 rfl (show P_aw _ _ _ 11 [.ref 1, P_z 12] [.ref 1] _ _ from ?_)
  refine P_aw_op (L' := [.ref 1, P_z 12]) (st' := [P_z 12, .ref 1]) P_i178_11 rfl (show P_aw _ _ _ 12 [.ref 1, P_z 12] [P_z 12, .ref 1] _ _ from ?_)
  refine P_aw_oald P_i178_12 (by decide) (by decide) (by decide +kernel) (show P_aw _ _ _ 13 [.ref 1, P_z 12] [P_z 2] _ _ from ?_)
  refine P_aw_goto P_i178_13 (show P_aw _ _ _ 17 [.ref 1, P_z 12] [P_z 2] _ _ from ?_)
  refine P_aw_end P_i178_17 rfl rfl (fun _ => rfl) rfl ?_
  show P_aw _ _ _ 25 [.ref (w.2.2 13), P_z 12, P_z 0] [P_z 2, P_z 0, .ref (w.2.2 28)] _ _
  refine P_aw_ast P_i82_25 (hw.2.1 28 (by decide)) (hw.s rfl) (by omega) (by omega) (by decide) (show P_aw _ _ _ 26 [.ref (w.2.2 13), P_z 12, P_z 0] [] _ _ from ?_)
  refine P_aw_op (L' := [.ref (w.2.2 13), P_z 12, P_z 1]) (st' := []) P_i82_26 (P_o_iincv (x := 0) rfl (by decide)) (show P_aw _ _ _ 29 [.ref (w.2.2 13), P_z 12, P_z 1] [] _ _ from ?_)
  refine P_aw_goto P_i82_29 (show P_aw _ _ _ 2 [.ref (w.2.2 13), P_z 12, P_z 1] [] _ _ from ?_)
  refine P_aw_op (L' := [.ref (w.2.2 13), P_z 12, P_z 1]) (st' := [P_z 1]) P_i82_2 rfl (show P_aw _ _ _ 3 [.ref (w.2.2 13), P_z 12, P_z 1] [P_z 1] _ _ from ?_)
  refine P_aw_op (L' := [.ref (w.2.2 13), P_z 12, P_z 1]) (st' := [.ref (w.2.2 13), P_z 1]) P_i82_3 rfl (show P_aw _ _ _ 4 [.ref (w.2.2 13), P_z 12, P_z 1] [.ref (w.2.2 13), P_z 1] _ _ from ?_)
  refine P_aw_getR P_i82_4 (hw.2.1 13 (by decide)) (hw.s rfl) rfl rfl (show P_aw _ _ _ 7 [.ref (w.2.2 13), P_z 12, P_z 1] [.ref (w.2.2 28), P_z 1] _ _ from ?_)
  refine P_aw_alen P_i82_7 (hw.2.1 28 (by decide)) (hw.s rfl) (show P_aw _ _ _ 8 [.ref (w.2.2 13), P_z 12, P_z 1] [P_z 3, P_z 1] _ _ from ?_)
  refine P_aw_icf P_i82_8 ⟨by decide, by decide⟩ ⟨by decide, by decide⟩ (P_ci_gef (by omega)) (show P_aw _ _ _ 11 [.ref (w.2.2 13), P_z 12, P_z 1] [] _ _ from ?_)
  refine P_aw_op (L' := [.ref (w.2.2 13), P_z 12, P_z 1]) (st' := [.ref (w.2.2 13)]) P_i82_11 rfl (show P_aw _ _ _ 12 [.ref (w.2.2 13), P_z 12, P_z 1] [.ref (w.2.2 13)] _ _ from ?_)
  refine P_aw_getR P_i82_12 (hw.2.1 13 (by decide)) (hw.s rfl) rfl rfl (show P_aw _ _ _ 15 [.ref (w.2.2 13), P_z 12, P_z 1] [.ref (w.2.2 28)] _ _ from ?_)
  refine P_aw_op (L' := [.ref (w.2.2 13), P_z 12, P_z 1]) (st' := [P_z 1, .ref (w.2.2 28)]) P_i82_15 rfl (show P_aw _ _ _ 16 [.ref (w.2.2 13), P_z 12, P_z 1] [P_z 1, .ref (w.2.2 28)] _ _ from ?_)
  refine P_aw_gst P_i82_16 (show P_aw _ _ _ 19 [.ref (w.2.2 13), P_z 12, P_z 1] [.ref 1, P_z 1, .ref (w.2.2 28)] _ _ from ?_)
  refine P_aw_op (L' := [.ref (w.2.2 13), P_z 12, P_z 1]) (st' := [P_z 12, .ref 1, P_z 1, .ref (w.2.2 28)]) P_i82_19 rfl (show P_aw _ _ _ 20 [.ref (w.2.2 13), P_z 12, P_z 1] [P_z 12, .ref 1, P_z 1, .ref (w.2.2 28)] _ _ from ?_)
  refine P_aw_op (L' := [.ref (w.2.2 13), P_z 12, P_z 1]) (st' := [P_z 1, P_z 12, .ref 1, P_z 1, .ref (w.2.2 28)]) P_i82_20 rfl (show P_aw _ _ _ 21 [.ref (w.2.2 13), P_z 12, P_z 1] [P_z 1, P_z 12, .ref 1, P_z 1, .ref (w.2.2 28)] _ _ from ?_)
  refine P_aw_op (L' := [.ref (w.2.2 13), P_z 12, P_z 1]) (st' := [P_z 13, .ref 1, P_z 1, .ref (w.2.2 28)]) P_i82_21 P_o_iadd (show P_aw _ _ _ 22 [.ref (w.2.2 13), P_z 12, P_z 1] [P_z 13, .ref 1, P_z 1, .ref (w.2.2 28)] _ _ from ?_)
  refine P_aw_call P_i82_22 rfl rfl (fun _ => rfl) rfl rfl rfl rfl (y2 := 178) (as := [.ref 1, P_z 13]) (r0 := [P_z 1, .ref (w.2.2 28)]) (fun _ _ => rfl) (Nat.le_of_ble_eq_true rfl) (by decide) rfl (Nat.le_of_ble_eq_true rfl) (show P_aw _ _ _ 0 [.ref 1, P_z 13] [] _ _ from ?_)
  refine P_aw_op (L' := [.ref 1, P_z 13]) (st' := [P_z 13]) P_i178_0 rfl (show P_aw _ _ _ 1 [.ref 1, P_z 13] [P_z 13] _ _ from ?_)
  refine P_aw_izf P_i178_1 ⟨by decide, by decide⟩ (P_ci_ltf (by omega)) (show P_aw _ _ _ 4 [.ref 1, P_z 13] [] _ _ from ?_)
  refine P_aw_op (L' := [.ref 1, P_z 13]) (st' := [P_z 13]) P_i178_4 rfl (show P_aw _ _ _ 5 [.ref 1, P_z 13] [P_z 13] _ _ from ?_)
  refine P_aw_op (L' := [.ref 1, P_z 13]) (st' := [.ref 1, P_z 13]) P_i178_5 rfl (show P_aw _ _ _ 6 [.ref 1, P_z 13] [.ref 1, P_z 13] _ _ from ?_)
  refine P_aw_olen P_i178_6 (show P_aw _ _ _ 7 [.ref 1, P_z 13] [P_z 18, P_z 13] _ _ from ?_)
  refine P_aw_icf P_i178_7 ⟨by decide, by decide⟩ ⟨by decide, by decide⟩ (P_ci_gef (by omega)) (show P_aw _ _ _ 10 [.ref 1, P_z 13] [] _ _ from ?_)
  refine P_aw_op (L' := [.ref 1, P_z 13]) (st' := [.ref 1]) P_i178_10 rfl (show P_aw _ _ _ 11 [.ref 1, P_z 13] [.ref 1] _ _ from ?_)
  refine P_aw_op (L' := [.ref 1, P_z 13]) (st' := [P_z 13, .ref 1]) P_i178_11 rfl (show P_aw _ _ _ 12 [.ref 1, P_z 13] [P_z 13, .ref 1] _ _ from ?_)
  refine P_aw_oald P_i178_12 (by decide) (by decide) (by decide +kernel) (show P_aw _ _ _ 13 [.ref 1, P_z 13] [P_z 0] _ _ from ?_)
  refine P_aw_goto P_i178_13 (show P_aw _ _ _ 17 [.ref 1, P_z 13] [P_z 0] _ _ from ?_)
  refine P_aw_end P_i178_17 rfl rfl (fun _ => rfl) rfl ?_
  show P_aw _ _ _ 25 [.ref (w.2.2 13), P_z 12, P_z 1] [P_z 0, P_z 1, .ref (w.2.2 28)] _ _
  refine P_aw_ast P_i82_25 (hw.2.1 28 (by decide)) (hw.s rfl) (by omega) (by omega) (by decide) (show P_aw _ _ _ 26 [.ref (w.2.2 13), P_z 12, P_z 1] [] _ _ from ?_)
  refine P_aw_op (L' := [.ref (w.2.2 13), P_z 12, P_z 2]) (st' := []) P_i82_26 (P_o_iincv (x := 1) rfl (by decide)) (show P_aw _ _ _ 29 [.ref (w.2.2 13), P_z 12, P_z 2] [] _ _ from ?_)
  refine P_aw_goto P_i82_29 (show P_aw _ _ _ 2 [.ref (w.2.2 13), P_z 12, P_z 2] [] _ _ from ?_)
  refine P_aw_op (L' := [.ref (w.2.2 13), P_z 12, P_z 2]) (st' := [P_z 2]) P_i82_2 rfl (show P_aw _ _ _ 3 [.ref (w.2.2 13), P_z 12, P_z 2] [P_z 2] _ _ from ?_)
  refine P_aw_op (L' := [.ref (w.2.2 13), P_z 12, P_z 2]) (st' := [.ref (w.2.2 13), P_z 2]) P_i82_3 rfl (show P_aw _ _ _ 4 [.ref (w.2.2 13), P_z 12, P_z 2] [.ref (w.2.2 13), P_z 2] _ _ from ?_)
  refine P_aw_getR P_i82_4 (hw.2.1 13 (by decide)) (hw.s rfl) rfl rfl (show P_aw _ _ _ 7 [.ref (w.2.2 13), P_z 12, P_z 2] [.ref (w.2.2 28), P_z 2] _ _ from ?_)
  refine P_aw_alen P_i82_7 (hw.2.1 28 (by decide)) (hw.s rfl) (show P_aw _ _ _ 8 [.ref (w.2.2 13), P_z 12, P_z 2] [P_z 3, P_z 2] _ _ from ?_)
  refine P_aw_icf P_i82_8 ⟨by decide, by decide⟩ ⟨by decide, by decide⟩ (P_ci_gef (by omega)) (show P_aw _ _ _ 11 [.ref (w.2.2 13), P_z 12, P_z 2] [] _ _ from ?_)
  refine P_aw_op (L' := [.ref (w.2.2 13), P_z 12, P_z 2]) (st' := [.ref (w.2.2 13)]) P_i82_11 rfl (show P_aw _ _ _ 12 [.ref (w.2.2 13), P_z 12, P_z 2] [.ref (w.2.2 13)] _ _ from ?_)
  refine P_aw_getR P_i82_12 (hw.2.1 13 (by decide)) (hw.s rfl) rfl rfl (show P_aw _ _ _ 15 [.ref (w.2.2 13), P_z 12, P_z 2] [.ref (w.2.2 28)] _ _ from ?_)
  refine P_aw_op (L' := [.ref (w.2.2 13), P_z 12, P_z 2]) (st' := [P_z 2, .ref (w.2.2 28)]) P_i82_15 rfl (show P_aw _ _ _ 16 [.ref (w.2.2 13), P_z 12, P_z 2] [P_z 2, .ref (w.2.2 28)] _ _ from ?_)
  refine P_aw_gst P_i82_16 (show P_aw _ _ _ 19 [.ref (w.2.2 13), P_z 12, P_z 2] [.ref 1, P_z 2, .ref (w.2.2 28)] _ _ from ?_)
  refine P_aw_op (L' := [.ref (w.2.2 13), P_z 12, P_z 2]) (st' := [P_z 12, .ref 1, P_z 2, .ref (w.2.2 28)]) P_i82_19 rfl (show P_aw _ _ _ 20 [.ref (w.2.2 13), P_z 12, P_z 2] [P_z 12, .ref 1, P_z 2, .ref (w.2.2 28)] _ _ from ?_)
  refine P_aw_op (L' := [.ref (w.2.2 13), P_z 12, P_z 2]) (st' := [P_z 2, P_z 12, .ref 1, P_z 2, .ref (w.2.2 28)]) P_i82_20 rfl (show P_aw _ _ _ 21 [.ref (w.2.2 13), P_z 12, P_z 2] [P_z 2, P_z 12, .ref 1, P_z 2, .ref (w.2.2 28)] _ _ from ?_)
  refine P_aw_op (L' := [.ref (w.2.2 13), P_z 12, P_z 2]) (st' := [P_z 14, .ref 1, P_z 2, .ref (w.2.2 28)]) P_i82_21 P_o_iadd (show P_aw _ _ _ 22 [.ref (w.2.2 13), P_z 12, P_z 2] [P_z 14, .ref 1, P_z 2, .ref (w.2.2 28)] _ _ from ?_)
  refine P_aw_call P_i82_22 rfl rfl (fun _ => rfl) rfl rfl rfl rfl (y2 := 178) (as := [.ref 1, P_z 14]) (r0 := [P_z 2, .ref (w.2.2 28)]) (fun _ _ => rfl) (Nat.le_of_ble_eq_true rfl) (by decide) rfl (Nat.le_of_ble_eq_true rfl) (show P_aw _ _ _ 0 [.ref 1, P_z 14] [] _ _ from ?_)
  refine P_aw_op (L' := [.ref 1, P_z 14]) (st' := [P_z 14]) P_i178_0 rfl (show P_aw _ _ _ 1 [.ref 1, P_z 14] [P_z 14] _ _ from ?_)
  refine P_aw_izf P_i178_1 ⟨by decide, by decide⟩ (P_ci_ltf (by omega)) (show P_aw _ _ _ 4 [.ref 1, P_z 14] [] _ _ from ?_)
  refine P_aw_op (L' := [.ref 1, P_z 14]) (st' := [P_z 14]) P_i178_4 rfl (show P_aw _ _ _ 5 [.ref 1, P_z 14] [P_z 14] _ _ from ?_)
  refine P_aw_op (L' := [.ref 1, P_z 14]) (st' := [.ref 1, P_z 14]) P_i178_5 rfl (show P_aw _ _ _ 6 [.ref 1, P_z 14] [.ref 1, P_z 14] _ _ from ?_)
  refine P_aw_olen P_i178_6 (show P_aw _ _ _ 7 [.ref 1, P_z 14] [P_z 18, P_z 14] _ _ from ?_)
  refine P_aw_icf P_i178_7 ⟨by decide, by decide⟩ ⟨by decide, by decide⟩ (P_ci_gef (by omega)) (show P_aw _ _ _ 10 [.ref 1, P_z 14] [] _ _ from ?_)
  refine P_aw_op (L' := [.ref 1, P_z 14]) (st' := [.ref 1]) P_i178_10 rfl (show P_aw _ _ _ 11 [.ref 1, P_z 14] [.ref 1] _ _ from ?_)
  refine P_aw_op (L' := [.ref 1, P_z 14]) (st' := [P_z 14, .ref 1]) P_i178_11 rfl (show P_aw _ _ _ 12 [.ref 1, P_z 14] [P_z 14, .ref 1] _ _ from ?_)
  refine P_aw_oald P_i178_12 (by decide) (by decide) (by decide +kernel) (show P_aw _ _ _ 13 [.ref 1, P_z 14] [P_z 1] _ _ from ?_)
  refine P_aw_goto P_i178_13 (show P_aw _ _ _ 17 [.ref 1, P_z 14] [P_z 1] _ _ from ?_)
  refine P_aw_end P_i178_17 rfl rfl (fun _ => rfl) rfl ?_
  show P_aw _ _ _ 25 [.ref (w.2.2 13), P_z 12, P_z 2] [P_z 1, P_z 2, .ref (w.2.2 28)] _ _
  refine P_aw_ast P_i82_25 (hw.2.1 28 (by decide)) (hw.s rfl) (by omega) (by omega) (by decide) (show P_aw _ _ _ 26 [.ref (w.2.2 13), P_z 12, P_z 2] [] _ _ from ?_)
  refine P_aw_op (L' := [.ref (w.2.2 13), P_z 12, P_z 3]) (st' := []) P_i82_26 (P_o_iincv (x := 2) rfl (by decide)) (show P_aw _ _ _ 29 [.ref (w.2.2 13), P_z 12, P_z 3] [] _ _ from ?_)
  refine P_aw_goto P_i82_29 (show P_aw _ _ _ 2 [.ref (w.2.2 13), P_z 12, P_z 3] [] _ _ from ?_)
  refine P_aw_op (L' := [.ref (w.2.2 13), P_z 12, P_z 3]) (st' := [P_z 3]) P_i82_2 rfl (show P_aw _ _ _ 3 [.ref (w.2.2 13), P_z 12, P_z 3] [P_z 3] _ _ from ?_)
  refine P_aw_op (L' := [.ref (w.2.2 13), P_z 12, P_z 3]) (st' := [.ref (w.2.2 13), P_z 3]) P_i82_3 rfl (show P_aw _ _ _ 4 [.ref (w.2.2 13), P_z 12, P_z 3] [.ref (w.2.2 13), P_z 3] _ _ from ?_)
  refine P_aw_getR P_i82_4 (hw.2.1 13 (by decide)) (hw.s rfl) rfl rfl (show P_aw _ _ _ 7 [.ref (w.2.2 13), P_z 12, P_z 3] [.ref (w.2.2 28), P_z 3] _ _ from ?_)
  refine P_aw_alen P_i82_7 (hw.2.1 28 (by decide)) (hw.s rfl) (show P_aw _ _ _ 8 [.ref (w.2.2 13), P_z 12, P_z 3] [P_z 3, P_z 3] _ _ from ?_)
  refine P_aw_ict P_i82_8 ⟨by decide, by decide⟩ ⟨by decide, by decide⟩ (P_ci_get (by omega)) (show P_aw _ _ _ 32 [.ref (w.2.2 13), P_z 12, P_z 3] [] _ _ from ?_)
  refine P_aw_op (L' := [.ref (w.2.2 13), P_z 12, P_z 3]) (st' := [P_z 0]) P_i82_32 rfl (show P_aw _ _ _ 33 [.ref (w.2.2 13), P_z 12, P_z 3] [P_z 0] _ _ from ?_)
  refine P_aw_op (L' := [.ref (w.2.2 13), P_z 12, P_z 0]) (st' := []) P_i82_33 rfl (show P_aw _ _ _ 34 [.ref (w.2.2 13), P_un, P_z 0] [] _ _ from ?_)
  refine P_aws (σ' := A_lev (A_o3 σ (A_od 12 0) (A_od 12 1) (A_od 12 2)) 0 (fun i => A_low (A_od 12) (cL i) (cR i))) (A_lev_0 (σ := A_o3 σ (A_od 12 0) (A_od 12 1) (A_od 12 2))).symm ?_
  exact s_bil (σ := A_o3 σ (A_od 12 0) (A_od 12 1) (A_od 12 2)) (od := A_od 12) hw hns (A_o3_O (A_isO_od hs hns)) (A_C_cg (cV' := cV) (A_o3_ne (by omega)) (fun a b h1 h2 h3 => A_o3_ne (by omega)) (fun i h0 h1 => ⟨(A_o3_ne (by omega)).trans (hC.2.2 i h0 h1).1.2.2.2, (hC.2.2 i h0 h1).2.2.2.2⟩) hC) sz.toNat 0 (by omega) (by omega) q

theorem s_bi15 {w : P_Lw} (hw : P_Cw w) {d : Nat} {Q : P_R → P_A → Prop} {σ : P_A} {ns : Int} (hns : 1 ≤ ns ∧ ns ≤ 3) {sz : Int} {cL cS cR cV : Int → Int} (hC : A_C σ ns sz cL cS cR cV) (hs : A_isO ns 15) (q : Q (.inl none) (A_bi σ 15 sz cL cR)) : P_aw w (d + 2) 82 0 [.ref (w.2.2 13), P_z 15, P_un] [] σ Q := by
  have hsz := hC.2.1
  refine P_aw_op (L' := [.ref (w.2.2 13), P_z 15, P_un]) (st' := [P_z 0]) P_i82_0 rfl (show P_aw _ _ _ 1 [.ref (w.2.2 13), P_z 15, P_un] [P_z 0] _ _ from ?_)
  refine P_aw_op (L' := [.ref (w.2.2 13), P_z 15, P_z 0]) (st' := []) P_i82_1 rfl (show P_aw _ _ _ 2 [.ref (w.2.2 13), P_z 15, P_z 0] [] _ _ from ?_)
  refine P_aw_op (L' := [.ref (w.2.2 13), P_z 15, P_z 0]) (st' := [P_z 0]) P_i82_2 rfl (show P_aw _ _ _ 3 [.ref (w.2.2 13), P_z 15, P_z 0] [P_z 0] _ _ from ?_)
  refine P_aw_op (L' := [.ref (w.2.2 13), P_z 15, P_z 0]) (st' := [.ref (w.2.2 13), P_z 0]) P_i82_3 rfl (show P_aw _ _ _ 4 [.ref (w.2.2 13), P_z 15, P_z 0] [.ref (w.2.2 13), P_z 0] _ _ from ?_)
  refine P_aw_getR P_i82_4 (hw.2.1 13 (by decide)) (hw.s rfl) rfl rfl (show P_aw _ _ _ 7 [.ref (w.2.2 13), P_z 15, P_z 0] [.ref (w.2.2 28), P_z 0] _ _ from ?_)
  refine P_aw_alen P_i82_7 (hw.2.1 28 (by decide)) (hw.s rfl) (show P_aw _ _ _ 8 [.ref (w.2.2 13), P_z 15, P_z 0] [P_z 3, P_z 0] _ _ from ?_)
  refine P_aw_icf P_i82_8 ⟨by decide, by decide⟩ ⟨by decide, by decide⟩ (P_ci_gef (by omega)) (show P_aw _ _ _ 11 [.ref (w.2.2 13), P_z 15, P_z 0] [] _ _ from ?_)
  refine P_aw_op (L' := [.ref (w.2.2 13), P_z 15, P_z 0]) (st' := [.ref (w.2.2 13)]) P_i82_11 rfl (show P_aw _ _ _ 12 [.ref (w.2.2 13), P_z 15, P_z 0] [.ref (w.2.2 13)] _ _ from ?_)
  refine P_aw_getR P_i82_12 (hw.2.1 13 (by decide)) (hw.s rfl) rfl rfl (show P_aw _ _ _ 15 [.ref (w.2.2 13), P_z 15, P_z 0] [.ref (w.2.2 28)] _ _ from ?_)
  refine P_aw_op (L' := [.ref (w.2.2 13), P_z 15, P_z 0]) (st' := [P_z 0, .ref (w.2.2 28)]) P_i82_15 rfl (show P_aw _ _ _ 16 [.ref (w.2.2 13), P_z 15, P_z 0] [P_z 0, .ref (w.2.2 28)] _ _ from ?_)
  refine P_aw_gst P_i82_16 (show P_aw _ _ _ 19 [.ref (w.2.2 13), P_z 15, P_z 0] [.ref 1, P_z 0, .ref (w.2.2 28)] _ _ from ?_)
  refine P_aw_op (L' := [.ref (w.2.2 13), P_z 15, P_z 0]) (st' := [P_z 15, .ref 1, P_z 0, .ref (w.2.2 28)]) P_i82_19 rfl (show P_aw _ _ _ 20 [.ref (w.2.2 13), P_z 15, P_z 0] [P_z 15, .ref 1, P_z 0, .ref (w.2.2 28)] _ _ from ?_)
  refine P_aw_op (L' := [.ref (w.2.2 13), P_z 15, P_z 0]) (st' := [P_z 0, P_z 15, .ref 1, P_z 0, .ref (w.2.2 28)]) P_i82_20 rfl (show P_aw _ _ _ 21 [.ref (w.2.2 13), P_z 15, P_z 0] [P_z 0, P_z 15, .ref 1, P_z 0, .ref (w.2.2 28)] _ _ from ?_)
  refine P_aw_op (L' := [.ref (w.2.2 13), P_z 15, P_z 0]) (st' := [P_z 15, .ref 1, P_z 0, .ref (w.2.2 28)]) P_i82_21 P_o_iadd (show P_aw _ _ _ 22 [.ref (w.2.2 13), P_z 15, P_z 0] [P_z 15, .ref 1, P_z 0, .ref (w.2.2 28)] _ _ from ?_)
  refine P_aw_call P_i82_22 rfl rfl (fun _ => rfl) rfl rfl rfl rfl (y2 := 178) (as := [.ref 1, P_z 15]) (r0 := [P_z 0, .ref (w.2.2 28)]) (fun _ _ => rfl) (Nat.le_of_ble_eq_true rfl) (by decide) rfl (Nat.le_of_ble_eq_true rfl) (show P_aw _ _ _ 0 [.ref 1, P_z 15] [] _ _ from ?_)
  refine P_aw_op (L' := [.ref 1, P_z 15]) (st' := [P_z 15]) P_i178_0 rfl (show P_aw _ _ _ 1 [.ref 1, P_z 15] [P_z 15] _ _ from ?_)
  refine P_aw_izf P_i178_1 ⟨by decide, by decide⟩ (P_ci_ltf (by omega)) (show P_aw _ _ _ 4 [.ref 1, P_z 15] [] _ _ from ?_)
  refine P_aw_op (L' := [.ref 1, P_z 15]) (st' := [P_z 15]) P_i178_4 rfl (show P_aw _ _ _ 5 [.ref 1, P_z 15] [P_z 15] _ _ from ?_)
  refine P_aw_op (L' := [.ref 1, P_z 15]) (st' := [.ref 1, P_z 15]) P_i178_5 rfl (show P_aw _ _ _ 6 [.ref 1, P_z 15] [.ref 1, P_z 15] _ _ from ?_)
  refine P_aw_olen P_i178_6 (show P_aw _ _ _ 7 [.ref 1, P_z 15] [P_z 18, P_z 15] _ _ from ?_)
  refine P_aw_icf P_i178_7 ⟨by decide, by decide⟩ ⟨by decide, by decide⟩ (P_ci_gef (by omega)) (show P_aw _ _ _ 10 [.ref 1, P_z 15] [] _ _ from ?_)
  refine P_aw_op (L' := [.ref 1, P_z 15]) (st' := [.ref 1]) P_i178_10 rfl (show P_aw _ _ _ 11 [.ref 1, P_z 15] [.ref 1] _ _ from ?_)
  refine P_aw_op (L' := [.ref 1, P_z 15]) (st' := [P_z 15, .ref 1]) P_i178_11 rfl (show P_aw _ _ _ 12 [.ref 1, P_z 15] [P_z 15, .ref 1] _ _ from ?_)
  refine P_aw_oald P_i178_12 (by decide) (by decide) (by decide +kernel) (show P_aw _ _ _ 13 [.ref 1, P_z 15] [P_z 2] _ _ from ?_)
  refine P_aw_goto P_i178_13 (show P_aw _ _ _ 17 [.ref 1, P_z 15] [P_z 2] _ _ from ?_)
  refine P_aw_end P_i178_17 rfl rfl (fun _ => rfl) rfl ?_
  show P_aw _ _ _ 25 [.ref (w.2.2 13), P_z 15, P_z 0] [P_z 2, P_z 0, .ref (w.2.2 28)] _ _
  refine P_aw_ast P_i82_25 (hw.2.1 28 (by decide)) (hw.s rfl) (by omega) (by omega) (by decide) (show P_aw _ _ _ 26 [.ref (w.2.2 13), P_z 15, P_z 0] [] _ _ from ?_)
  refine P_aw_op (L' := [.ref (w.2.2 13), P_z 15, P_z 1]) (st' := []) P_i82_26 (P_o_iincv (x := 0) rfl (by decide)) (show P_aw _ _ _ 29 [.ref (w.2.2 13), P_z 15, P_z 1] [] _ _ from ?_)
  refine P_aw_goto P_i82_29 (show P_aw _ _ _ 2 [.ref (w.2.2 13), P_z 15, P_z 1] [] _ _ from ?_)
  refine P_aw_op (L' := [.ref (w.2.2 13), P_z 15, P_z 1]) (st' := [P_z 1]) P_i82_2 rfl (show P_aw _ _ _ 3 [.ref (w.2.2 13), P_z 15, P_z 1] [P_z 1] _ _ from ?_)
  refine P_aw_op (L' := [.ref (w.2.2 13), P_z 15, P_z 1]) (st' := [.ref (w.2.2 13), P_z 1]) P_i82_3 rfl (show P_aw _ _ _ 4 [.ref (w.2.2 13), P_z 15, P_z 1] [.ref (w.2.2 13), P_z 1] _ _ from ?_)
  refine P_aw_getR P_i82_4 (hw.2.1 13 (by decide)) (hw.s rfl) rfl rfl (show P_aw _ _ _ 7 [.ref (w.2.2 13), P_z 15, P_z 1] [.ref (w.2.2 28), P_z 1] _ _ from ?_)
  refine P_aw_alen P_i82_7 (hw.2.1 28 (by decide)) (hw.s rfl) (show P_aw _ _ _ 8 [.ref (w.2.2 13), P_z 15, P_z 1] [P_z 3, P_z 1] _ _ from ?_)
  refine P_aw_icf P_i82_8 ⟨by decide, by decide⟩ ⟨by decide, by decide⟩ (P_ci_gef (by omega)) (show P_aw _ _ _ 11 [.ref (w.2.2 13), P_z 15, P_z 1] [] _ _ from ?_)
  refine P_aw_op (L' := [.ref (w.2.2 13), P_z 15, P_z 1]) (st' := [.ref (w.2.2 13)]) P_i82_11 rfl (show P_aw _ _ _ 12 [.ref (w.2.2 13), P_z 15, P_z 1] [.ref (w.2.2 13)] _ _ from ?_)
  refine P_aw_getR P_i82_12 (hw.2.1 13 (by decide)) (hw.s rfl) rfl rfl (show P_aw _ _ _ 15 [.ref (w.2.2 13), P_z 15, P_z 1] [.ref (w.2.2 28)] _ _ from ?_)
  refine P_aw_op (L' := [.ref (w.2.2 13), P_z 15, P_z 1]) (st' := [P_z 1, .ref (w.2.2 28)]) P_i82_15 rfl (show P_aw _ _ _ 16 [.ref (w.2.2 13), P_z 15, P_z 1] [P_z 1, .ref (w.2.2 28)] _ _ from ?_)
  refine P_aw_gst P_i82_16 (show P_aw _ _ _ 19 [.ref (w.2.2 13), P_z 15, P_z 1] [.ref 1, P_z 1, .ref (w.2.2 28)] _ _ from ?_)
  refine P_aw_op (L' := [.ref (w.2.2 13), P_z 15, P_z 1]) (st' := [P_z 15, .ref 1, P_z 1, .ref (w.2.2 28)]) P_i82_19 rfl (show P_aw _ _ _ 20 [.ref (w.2.2 13), P_z 15, P_z 1] [P_z 15, .ref 1, P_z 1, .ref (w.2.2 28)] _ _ from ?_)
  refine P_aw_op (L' := [.ref (w.2.2 13), P_z 15, P_z 1]) (st' := [P_z 1, P_z 15, .ref 1, P_z 1, .ref (w.2.2 28)]) P_i82_20 rfl (show P_aw _ _ _ 21 [.ref (w.2.2 13), P_z 15, P_z 1] [P_z 1, P_z 15, .ref 1, P_z 1, .ref (w.2.2 28)] _ _ from ?_)
  refine P_aw_op (L' := [.ref (w.2.2 13), P_z 15, P_z 1]) (st' := [P_z 16, .ref 1, P_z 1, .ref (w.2.2 28)]) P_i82_21 P_o_iadd (show P_aw _ _ _ 22 [.ref (w.2.2 13), P_z 15, P_z 1] [P_z 16, .ref 1, P_z 1, .ref (w.2.2 28)] _ _ from ?_)
  refine P_aw_call P_i82_22 rfl rfl (fun _ => rfl) rfl rfl rfl rfl (y2 := 178) (as := [.ref 1, P_z 16]) (r0 := [P_z 1, .ref (w.2.2 28)]) (fun _ _ => rfl) (Nat.le_of_ble_eq_true rfl) (by decide) rfl (Nat.le_of_ble_eq_true rfl) (show P_aw _ _ _ 0 [.ref 1, P_z 16] [] _ _ from ?_)
  refine P_aw_op (L' := [.ref 1, P_z 16]) (st' := [P_z 16]) P_i178_0 rfl (show P_aw _ _ _ 1 [.ref 1, P_z 16] [P_z 16] _ _ from ?_)
  refine P_aw_izf P_i178_1 ⟨by decide, by decide⟩ (P_ci_ltf (by omega)) (show P_aw _ _ _ 4 [.ref 1, P_z 16] [] _ _ from ?_)
  refine P_aw_op (L' := [.ref 1, P_z 16]) (st' := [P_z 16]) P_i178_4 rfl (show P_aw _ _ _ 5 [.ref 1, P_z 16] [P_z 16] _ _ from ?_)
  refine P_aw_op (L' := [.ref 1, P_z 16]) (st' := [.ref 1, P_z 16]) P_i178_5 rfl (show P_aw _ _ _ 6 [.ref 1, P_z 16] [.ref 1, P_z 16] _ _ from ?_)
  refine P_aw_olen P_i178_6 (show P_aw _ _ _ 7 [.ref 1, P_z 16] [P_z 18, P_z 16] _ _ from ?_)
  refine P_aw_icf P_i178_7 ⟨by decide, by decide⟩ ⟨by decide, by decide⟩ (P_ci_gef (by omega)) (show P_aw _ _ _ 10 [.ref 1, P_z 16] [] _ _ from ?_)
  refine P_aw_op (L' := [.ref 1, P_z 16]) (st' := [.ref 1]) P_i178_10 rfl (show P_aw _ _ _ 11 [.ref 1, P_z 16] [.ref 1] _ _ from ?_)
  refine P_aw_op (L' := [.ref 1, P_z 16]) (st' := [P_z 16, .ref 1]) P_i178_11 rfl (show P_aw _ _ _ 12 [.ref 1, P_z 16] [P_z 16, .ref 1] _ _ from ?_)
  refine P_aw_oald P_i178_12 (by decide) (by decide) (by decide +kernel) (show P_aw _ _ _ 13 [.ref 1, P_z 16] [P_z 1] _ _ from ?_)
  refine P_aw_goto P_i178_13 (show P_aw _ _ _ 17 [.ref 1, P_z 16] [P_z 1] _ _ from ?_)
  refine P_aw_end P_i178_17 rfl rfl (fun _ => rfl) rfl ?_
  show P_aw _ _ _ 25 [.ref (w.2.2 13), P_z 15, P_z 1] [P_z 1, P_z 1, .ref (w.2.2 28)] _ _
  refine P_aw_ast P_i82_25 (hw.2.1 28 (by decide)) (hw.s rfl) (by omega) (by omega) (by decide) (show P_aw _ _ _ 26 [.ref (w.2.2 13), P_z 15, P_z 1] [] _ _ from ?_)
  refine P_aw_op (L' := [.ref (w.2.2 13), P_z 15, P_z 2]) (st' := []) P_i82_26 (P_o_iincv (x := 1) rfl (by decide)) (show P_aw _ _ _ 29 [.ref (w.2.2 13), P_z 15, P_z 2] [] _ _ from ?_)
  refine P_aw_goto P_i82_29 (show P_aw _ _ _ 2 [.ref (w.2.2 13), P_z 15, P_z 2] [] _ _ from ?_)
  refine P_aw_op (L' := [.ref (w.2.2 13), P_z 15, P_z 2]) (st' := [P_z 2]) P_i82_2 rfl (show P_aw _ _ _ 3 [.ref (w.2.2 13), P_z 15, P_z 2] [P_z 2] _ _ from ?_)
  refine P_aw_op (L' := [.ref (w.2.2 13), P_z 15, P_z 2]) (st' := [.ref (w.2.2 13), P_z 2]) P_i82_3 rfl (show P_aw _ _ _ 4 [.ref (w.2.2 13), P_z 15, P_z 2] [.ref (w.2.2 13), P_z 2] _ _ from ?_)
  refine P_aw_getR P_i82_4 (hw.2.1 13 (by decide)) (hw.s rfl) rfl rfl (show P_aw _ _ _ 7 [.ref (w.2.2 13), P_z 15, P_z 2] [.ref (w.2.2 28), P_z 2] _ _ from ?_)
  refine P_aw_alen P_i82_7 (hw.2.1 28 (by decide)) (hw.s rfl) (show P_aw _ _ _ 8 [.ref (w.2.2 13), P_z 15, P_z 2] [P_z 3, P_z 2] _ _ from ?_)
  refine P_aw_icf P_i82_8 ⟨by decide, by decide⟩ ⟨by decide, by decide⟩ (P_ci_gef (by omega)) (show P_aw _ _ _ 11 [.ref (w.2.2 13), P_z 15, P_z 2] [] _ _ from ?_)
  refine P_aw_op (L' := [.ref (w.2.2 13), P_z 15, P_z 2]) (st' := [.ref (w.2.2 13)]) P_i82_11 rfl (show P_aw _ _ _ 12 [.ref (w.2.2 13), P_z 15, P_z 2] [.ref (w.2.2 13)] _ _ from ?_)
  refine P_aw_getR P_i82_12 (hw.2.1 13 (by decide)) (hw.s rfl) rfl rfl (show P_aw _ _ _ 15 [.ref (w.2.2 13), P_z 15, P_z 2] [.ref (w.2.2 28)] _ _ from ?_)
  refine P_aw_op (L' := [.ref (w.2.2 13), P_z 15, P_z 2]) (st' := [P_z 2, .ref (w.2.2 28)]) P_i82_15 rfl (show P_aw _ _ _ 16 [.ref (w.2.2 13), P_z 15, P_z 2] [P_z 2, .ref (w.2.2 28)] _ _ from ?_)
  refine P_aw_gst P_i82_16 (show P_aw _ _ _ 19 [.ref (w.2.2 13), P_z 15, P_z 2] [.ref 1, P_z 2, .ref (w.2.2 28)] _ _ from ?_)
  refine P_aw_op (L' := [.ref (w.2.2 13), P_z 15, P_z 2]) (st' := [P_z 15, .ref 1, P_z 2, .ref (w.2.2 28)]) P_i82_19 rfl (show P_aw _ _ _ 20 [.ref (w.2.2 13), P_z 15, P_z 2] [P_z 15, .ref 1, P_z 2, .ref (w.2.2 28)] _ _ from ?_)
  refine P_aw_op (L' := [.ref (w.2.2 13), P_z 15, P_z 2]) (st' := [P_z 2, P_z 15, .ref 1, P_z 2, .ref (w.2.2 28)]) P_i82_20 rfl (show P_aw _ _ _ 21 [.ref (w.2.2 13), P_z 15, P_z 2] [P_z 2, P_z 15, .ref 1, P_z 2, .ref (w.2.2 28)] _ _ from ?_)
  refine P_aw_op (L' := [.ref (w.2.2 13), P_z 15, P_z 2]) (st' := [P_z 17, .ref 1, P_z 2, .ref (w.2.2 28)]) P_i82_21 P_o_iadd (show P_aw _ _ _ 22 [.ref (w.2.2 13), P_z 15, P_z 2] [P_z 17, .ref 1, P_z 2, .ref (w.2.2 28)] _ _ from ?_)
  refine P_aw_call P_i82_22 rfl rfl (fun _ => rfl) rfl rfl rfl rfl (y2 := 178) (as := [.ref 1, P_z 17]) (r0 := [P_z 2, .ref (w.2.2 28)]) (fun _ _ => rfl) (Nat.le_of_ble_eq_true rfl) (by decide) rfl (Nat.le_of_ble_eq_true rfl) (show P_aw _ _ _ 0 [.ref 1, P_z 17] [] _ _ from ?_)
  refine P_aw_op (L' := [.ref 1, P_z 17]) (st' := [P_z 17]) P_i178_0 rfl (show P_aw _ _ _ 1 [.ref 1, P_z 17] [P_z 17] _ _ from ?_)
  refine P_aw_izf P_i178_1 ⟨by decide, by decide⟩ (P_ci_ltf (by omega)) (show P_aw _ _ _ 4 [.ref 1, P_z 17] [] _ _ from ?_)
  refine P_aw_op (L' := [.ref 1, P_z 17]) (st' := [P_z 17]) P_i178_4 rfl (show P_aw _ _ _ 5 [.ref 1, P_z 17] [P_z 17] _ _ from ?_)
  refine P_aw_op (L' := [.ref 1, P_z 17]) (st' := [.ref 1, P_z 17]) P_i178_5 rfl (show P_aw _ _ _ 6 [.ref 1, P_z 17] [.ref 1, P_z 17] _ _ from ?_)
  refine P_aw_olen P_i178_6 (show P_aw _ _ _ 7 [.ref 1, P_z 17] [P_z 18, P_z 17] _ _ from ?_)
  refine P_aw_icf P_i178_7 ⟨by decide, by decide⟩ ⟨by decide, by decide⟩ (P_ci_gef (by omega)) (show P_aw _ _ _ 10 [.ref 1, P_z 17] [] _ _ from ?_)
  refine P_aw_op (L' := [.ref 1, P_z 17]) (st' := [.ref 1]) P_i178_10 rfl (show P_aw _ _ _ 11 [.ref 1, P_z 17] [.ref 1] _ _ from ?_)
  refine P_aw_op (L' := [.ref 1, P_z 17]) (st' := [P_z 17, .ref 1]) P_i178_11 rfl (show P_aw _ _ _ 12 [.ref 1, P_z 17] [P_z 17, .ref 1] _ _ from ?_)
  refine P_aw_oald P_i178_12 (by decide) (by decide) (by decide +kernel) (show P_aw _ _ _ 13 [.ref 1, P_z 17] [P_z 0] _ _ from ?_)
  refine P_aw_goto P_i178_13 (show P_aw _ _ _ 17 [.ref 1, P_z 17] [P_z 0] _ _ from ?_)
  refine P_aw_end P_i178_17 rfl rfl (fun _ => rfl) rfl ?_
  show P_aw _ _ _ 25 [.ref (w.2.2 13), P_z 15, P_z 2] [P_z 0, P_z 2, .ref (w.2.2 28)] _ _
  refine P_aw_ast P_i82_25 (hw.2.1 28 (by decide)) (hw.s rfl) (by omega) (by omega) (by decide) (show P_aw _ _ _ 26 [.ref (w.2.2 13), P_z 15, P_z 2] [] _ _ from ?_)
  refine P_aw_op (L' := [.ref (w.2.2 13), P_z 15, P_z 3]) (st' := []) P_i82_26 (P_o_iincv (x := 2) rfl (by decide)) (show P_aw _ _ _ 29 [.ref (w.2.2 13), P_z 15, P_z 3] [] _ _ from ?_)
  refine P_aw_goto P_i82_29 (show P_aw _ _ _ 2 [.ref (w.2.2 13), P_z 15, P_z 3] [] _ _ from ?_)
  refine P_aw_op (L' := [.ref (w.2.2 13), P_z 15, P_z 3]) (st' := [P_z 3]) P_i82_2 rfl (show P_aw _ _ _ 3 [.ref (w.2.2 13), P_z 15, P_z 3] [P_z 3] _ _ from ?_)
  refine P_aw_op (L' := [.ref (w.2.2 13), P_z 15, P_z 3]) (st' := [.ref (w.2.2 13), P_z 3]) P_i82_3 rfl (show P_aw _ _ _ 4 [.ref (w.2.2 13), P_z 15, P_z 3] [.ref (w.2.2 13), P_z 3] _ _ from ?_)
  refine P_aw_getR P_i82_4 (hw.2.1 13 (by decide)) (hw.s rfl) rfl rfl (show P_aw _ _ _ 7 [.ref (w.2.2 13), P_z 15, P_z 3] [.ref (w.2.2 28), P_z 3] _ _ from ?_)
  refine P_aw_alen P_i82_7 (hw.2.1 28 (by decide)) (hw.s rfl) (show P_aw _ _ _ 8 [.ref (w.2.2 13), P_z 15, P_z 3] [P_z 3, P_z 3] _ _ from ?_)
  refine P_aw_ict P_i82_8 ⟨by decide, by decide⟩ ⟨by decide, by decide⟩ (P_ci_get (by omega)) (show P_aw _ _ _ 32 [.ref (w.2.2 13), P_z 15, P_z 3] [] _ _ from ?_)
  refine P_aw_op (L' := [.ref (w.2.2 13), P_z 15, P_z 3]) (st' := [P_z 0]) P_i82_32 rfl (show P_aw _ _ _ 33 [.ref (w.2.2 13), P_z 15, P_z 3] [P_z 0] _ _ from ?_)
  refine P_aw_op (L' := [.ref (w.2.2 13), P_z 15, P_z 0]) (st' := []) P_i82_33 rfl (show P_aw _ _ _ 34 [.ref (w.2.2 13), P_un, P_z 0] [] _ _ from ?_)
  refine P_aws (σ' := A_lev (A_o3 σ (A_od 15 0) (A_od 15 1) (A_od 15 2)) 0 (fun i => A_low (A_od 15) (cL i) (cR i))) (A_lev_0 (σ := A_o3 σ (A_od 15 0) (A_od 15 1) (A_od 15 2))).symm ?_
  exact s_bil (σ := A_o3 σ (A_od 15 0) (A_od 15 1) (A_od 15 2)) (od := A_od 15) hw hns (A_o3_O (A_isO_od hs hns)) (A_C_cg (cV' := cV) (A_o3_ne (by omega)) (fun a b h1 h2 h3 => A_o3_ne (by omega)) (fun i h0 h1 => ⟨(A_o3_ne (by omega)).trans (hC.2.2 i h0 h1).1.2.2.2, (hC.2.2 i h0 h1).2.2.2.2⟩) hC) sz.toNat 0 (by omega) (by omega) q

theorem s_bi {w : P_Lw} (hw : P_Cw w) {d : Nat} {Q : P_R → P_A → Prop} {σ : P_A} {ns : Int} (hns : 1 ≤ ns ∧ ns ≤ 3) {sz : Int} {cL cS cR cV : Int → Int} (hC : A_C σ ns sz cL cS cR cV) {s : Int} (hs : A_isO ns s) (q : Q (.inl none) (A_bi σ s sz cL cR)) : P_aw w (d + 2) 82 0 [.ref (w.2.2 13), P_z s, P_un] [] σ Q := by
  have h := hs
  unfold A_isO at h
  have h2 : s = 0 ∨ s = 3 ∨ s = 6 ∨ s = 9 ∨ s = 12 ∨ s = 15 := by omega
  rcases h2 with rfl | rfl | rfl | rfl | rfl | rfl
  · exact s_bi0 hw hns hC hs q
  · exact s_bi3 hw hns hC hs q
  · exact s_bi6 hw hns hC hs q
  · exact s_bi9 hw hns hC hs q
  · exact s_bi12 hw hns hC hs q
  · exact s_bi15 hw hns hC hs q

/-- what an order costs -/
def A_cst (rw : Int → Int) (vr : Int → Int → Int) (nv ns sz : Int) (cL cS cR : Int → Int) (s : Int) : Int := if nv = 1 then 0 else A_ct rw (A_od s) (A_th vr sz cL cS cR (fun i => A_low (A_od s) (cL i) (cR i))) ns.toNat 0 1 0
theorem A_ct_rg {rw od : Int → Int} {th : Int → Int → Int} {ns : Int} (hns : 1 ≤ ns ∧ ns ≤ 3) (hr : ∀ p, 0 ≤ p → p < ns → 0 ≤ rw (od p) ∧ rw (od p) ≤ 14) (ht : ∀ p g, 0 ≤ g → 0 ≤ th p g ∧ th p g ≤ g) : 0 ≤ A_ct rw od th ns.toNat 0 1 0 ∧ A_ct rw od th ns.toNat 0 1 0 ≤ 3000 := by
  have r0 := hr 0 (by omega) (by omega)
  have m0 := A_mb (a := 1) (by omega) r0.1 r0.2
  have t0 := ht 0 _ m0.1
  have hn : ns = 1 ∨ ns = 2 ∨ ns = 3 := by omega
  rcases hn with rfl | rfl | rfl
  · show 0 ≤ 0 + 1 * rw (od 0) ∧ 0 + 1 * rw (od 0) ≤ 3000
    omega
  · have r1 := hr 1 (by omega) (by omega)
    have m1 := A_mb t0.1 r1.1 r1.2
    show 0 ≤ 0 + 1 * rw (od 0) + th 0 (1 * rw (od 0)) * rw (od 1) ∧ 0 + 1 * rw (od 0) + th 0 (1 * rw (od 0)) * rw (od 1) ≤ 3000
    omega
  · have r1 := hr 1 (by omega) (by omega)
    have m1 := A_mb t0.1 r1.1 r1.2
    have t1 := ht 1 _ m1.1
    have r2 := hr 2 (by omega) (by omega)
    have m2 := A_mb t1.1 r2.1 r2.2
    show 0 ≤ 0 + 1 * rw (od 0) + th 0 (1 * rw (od 0)) * rw (od 1) + th 1 (th 0 (1 * rw (od 0)) * rw (od 1)) * rw (od 2) ∧ 0 + 1 * rw (od 0) + th 0 (1 * rw (od 0)) * rw (od 1) + th 1 (th 0 (1 * rw (od 0)) * rw (od 1)) * rw (od 2) ≤ 3000
    omega
theorem A_cst_rg {w : P_Lw} {σ : P_A} {tb : Int → Nat} {rw : Int → Int} {vr : Int → Int → Int} {nv ns sz s : Int} {cL cS cR : Int → Int} (hA : A_V w σ ns tb rw vr) (hs : A_isO ns s) : 0 ≤ A_cst rw vr nv ns sz cL cS cR s ∧ A_cst rw vr nv ns sz cL cS cR s ≤ 3000 := by
  unfold A_cst
  split
  · omega
  · refine A_ct_rg hA.2.1 (fun p h0 h1 => ?_) (fun p g hg => A_th_rg hg)
    have h := A_isO_od hs hA.2.1 p h0 (by have := hA.2.1; omega)
    exact (hA.2.2 _ h.1 (h.2.2 h1)).2.2.2.1
/-- the cheaper of the best so far and of the order s -/
def A_bt (cst : Int → Int) (s : Int) (x : Int × Int) : Int × Int := if x.1 = -1 ∨ cst s < x.1 then (cst s, s) else x

theorem s_bt1_0 {w : P_Lw} (hw : P_Cw w) {d : Nat} {Q : P_R → P_A → Prop} {σ : P_A} {tb : Int → Nat} {rw : Int → Int} {vr : Int → Int → Int} (hA : A_V w σ 1 tb rw vr) {sz : Int} {cL cS cR cV : Int → Int} (hC : A_C σ 1 sz cL cS cR cV) {nv : Int} (hN : σ 13 5 = nv) (hn01 : 0 ≤ nv ∧ nv ≤ 1) {x : Int × Int} (hx : -1 ≤ x.1 ∧ x.1 ≤ 3000) (hs : A_isO 1 0) (q : P_aw w (d + 8) 80 9 [.ref (w.2.2 13), P_zl (A_bt (A_cst rw vr nv 1 sz cL cS cR) 0 x).1, P_un, P_z (A_bt (A_cst rw vr nv 1 sz cL cS cR) 0 x).2, P_z 3, P_un, P_un] [] (A_bi σ 0 sz cL cR) Q) : P_aw w (d + 8) 80 9 [.ref (w.2.2 13), P_zl x.1, P_un, P_z x.2, P_z 0, P_un, P_un] [] σ Q := by
  have hsz := hC.2.1
  refine P_aw_op (L' := [.ref (w.2.2 13), P_zl x.1, P_un, P_z x.2, P_z 0, P_un, P_un]) (st' := [P_z 0]) P_i80_9 rfl (show P_aw _ _ _ 11 [.ref (w.2.2 13), P_zl x.1, P_un, P_z x.2, P_z 0, P_un, P_un] [P_z 0] _ _ from ?_)
  refine P_aw_gst P_i80_11 (show P_aw _ _ _ 14 [.ref (w.2.2 13), P_zl x.1, P_un, P_z x.2, P_z 0, P_un, P_un] [.ref 1, P_z 0] _ _ from ?_)
  refine P_aw_olen P_i80_14 (show P_aw _ _ _ 15 [.ref (w.2.2 13), P_zl x.1, P_un, P_z x.2, P_z 0, P_un, P_un] [P_z 18, P_z 0] _ _ from ?_)
  refine P_aw_icf P_i80_15 ⟨by decide, by decide⟩ ⟨by decide, by decide⟩ (P_ci_gef (by omega)) (show P_aw _ _ _ 18 [.ref (w.2.2 13), P_zl x.1, P_un, P_z x.2, P_z 0, P_un, P_un] [] _ _ from ?_)
  refine P_aw_op (L' := [.ref (w.2.2 13), P_zl x.1, P_un, P_z x.2, P_z 0, P_un, P_un]) (st' := [.ref (w.2.2 13)]) P_i80_18 rfl (show P_aw _ _ _ 19 [.ref (w.2.2 13), P_zl x.1, P_un, P_z x.2, P_z 0, P_un, P_un] [.ref (w.2.2 13)] _ _ from ?_)
  refine P_aw_op (L' := [.ref (w.2.2 13), P_zl x.1, P_un, P_z x.2, P_z 0, P_un, P_un]) (st' := [P_z 0, .ref (w.2.2 13)]) P_i80_19 rfl (show P_aw _ _ _ 21 [.ref (w.2.2 13), P_zl x.1, P_un, P_z x.2, P_z 0, P_un, P_un] [P_z 0, .ref (w.2.2 13)] _ _ from ?_)
  refine P_aw_call P_i80_21 rfl rfl (fun _ => rfl) rfl rfl rfl rfl (y2 := 81) (as := [.ref (w.2.2 13), P_z 0]) (r0 := []) (P_inv_v (hw.2.1 13 (by decide)) (hw.s rfl) rfl rfl) (Nat.le_of_ble_eq_true rfl) (by decide) rfl (Nat.le_of_ble_eq_true rfl) (show P_aw _ _ _ 0 [.ref (w.2.2 13), P_z 0, P_un] [] _ _ from ?_)
  refine P_aw_op (L' := [.ref (w.2.2 13), P_z 0, P_un]) (st' := [.ref (w.2.2 13)]) P_i81_0 rfl (show P_aw _ _ _ 1 [.ref (w.2.2 13), P_z 0, P_un] [.ref (w.2.2 13)] _ _ from ?_)
  refine P_aw_getR P_i81_1 (hw.2.1 13 (by decide)) (hw.s rfl) rfl rfl (show P_aw _ _ _ 4 [.ref (w.2.2 13), P_z 0, P_un] [.ref (w.2.2 6)] _ _ from ?_)
  refine P_aw_call P_i81_4 rfl rfl (fun _ => rfl) rfl rfl rfl rfl (y2 := 30) (as := [.ref (w.2.2 6)]) (r0 := []) (P_inv_v (hw.2.1 6 (by decide)) (hw.s rfl) rfl rfl) (Nat.le_of_ble_eq_true rfl) (by decide) rfl (Nat.le_of_ble_eq_true rfl) (show P_aw _ _ _ 0 [.ref (w.2.2 6)] [] _ _ from ?_)
  refine P_aw_op (L' := [.ref (w.2.2 6)]) (st' := [.ref (w.2.2 6)]) P_i30_0 rfl (show P_aw _ _ _ 1 [.ref (w.2.2 6)] [.ref (w.2.2 6)] _ _ from ?_)
  have hg1 := hA.2.1
  refine P_aw_getv P_i30_1 (hw.2.1 6 (by decide)) (hw.s rfl) rfl rfl (hA.1) (show P_aw _ _ _ 4 [.ref (w.2.2 6)] [P_z 1] _ _ from ?_)
  refine P_aw_end P_i30_4 rfl rfl (fun _ => rfl) rfl ?_
  show P_aw _ _ _ 7 [.ref (w.2.2 13), P_z 0, P_un] [P_z 1] _ _
  refine P_aw_op (L' := [.ref (w.2.2 13), P_z 0, P_z 1]) (st' := []) P_i81_7 rfl (show P_aw _ _ _ 8 [P_un, P_z 0, P_z 1] [] _ _ from ?_)
  refine P_aw_op (L' := [P_un, P_z 0, P_z 1]) (st' := [P_z 1]) P_i81_8 rfl (show P_aw _ _ _ 9 [P_un, P_z 0, P_z 1] [P_z 1] _ _ from ?_)
  refine P_aw_op (L' := [P_un, P_z 0, P_z 1]) (st' := [P_z 3, P_z 1]) P_i81_9 rfl (show P_aw _ _ _ 10 [P_un, P_z 0, P_z 1] [P_z 3, P_z 1] _ _ from ?_)
  refine P_aw_icf P_i81_10 ⟨by decide, by decide⟩ ⟨by decide, by decide⟩ (P_ci_gef (by omega)) (show P_aw _ _ _ 13 [P_un, P_z 0, P_z 1] [] _ _ from ?_)
  refine P_aw_gst P_i81_13 (show P_aw _ _ _ 16 [P_un, P_z 0, P_z 1] [.ref 1] _ _ from ?_)
  refine P_aw_op (L' := [P_un, P_z 0, P_z 1]) (st' := [P_z 0, .ref 1]) P_i81_16 rfl (show P_aw _ _ _ 17 [P_un, P_z 0, P_z 1] [P_z 0, .ref 1] _ _ from ?_)
  refine P_aw_op (L' := [P_un, P_z 0, P_z 1]) (st' := [P_z 1, P_z 0, .ref 1]) P_i81_17 rfl (show P_aw _ _ _ 18 [P_un, P_z 0, P_z 1] [P_z 1, P_z 0, .ref 1] _ _ from ?_)
  refine P_aw_op (L' := [P_un, P_z 0, P_z 1]) (st' := [P_z 1, .ref 1]) P_i81_18 P_o_iadd (show P_aw _ _ _ 19 [P_un, P_z 0, P_z 1] [P_z 1, .ref 1] _ _ from ?_)
  refine P_aw_call P_i81_19 rfl rfl (fun _ => rfl) rfl rfl rfl rfl (y2 := 178) (as := [.ref 1, P_z 1]) (r0 := []) (fun _ _ => rfl) (Nat.le_of_ble_eq_true rfl) (by decide) rfl (Nat.le_of_ble_eq_true rfl) (show P_aw _ _ _ 0 [.ref 1, P_z 1] [] _ _ from ?_)
  refine P_aw_op (L' := [.ref 1, P_z 1]) (st' := [P_z 1]) P_i178_0 rfl (show P_aw _ _ _ 1 [.ref 1, P_z 1] [P_z 1] _ _ from ?_)
  refine P_aw_izf P_i178_1 ⟨by decide, by decide⟩ (P_ci_ltf (by omega)) (show P_aw _ _ _ 4 [.ref 1, P_z 1] [] _ _ from ?_)
  refine P_aw_op (L' := [.ref 1, P_z 1]) (st' := [P_z 1]) P_i178_4 rfl (show P_aw _ _ _ 5 [.ref 1, P_z 1] [P_z 1] _ _ from ?_)
  refine P_aw_op (L' := [.ref 1, P_z 1]) (st' := [.ref 1, P_z 1]) P_i178_5 rfl (show P_aw _ _ _ 6 [.ref 1, P_z 1] [.ref 1, P_z 1] _ _ from ?_)
  refine P_aw_olen P_i178_6 (show P_aw _ _ _ 7 [.ref 1, P_z 1] [P_z 18, P_z 1] _ _ from ?_)
  refine P_aw_icf P_i178_7 ⟨by decide, by decide⟩ ⟨by decide, by decide⟩ (P_ci_gef (by omega)) (show P_aw _ _ _ 10 [.ref 1, P_z 1] [] _ _ from ?_)
  refine P_aw_op (L' := [.ref 1, P_z 1]) (st' := [.ref 1]) P_i178_10 rfl (show P_aw _ _ _ 11 [.ref 1, P_z 1] [.ref 1] _ _ from ?_)
  refine P_aw_op (L' := [.ref 1, P_z 1]) (st' := [P_z 1, .ref 1]) P_i178_11 rfl (show P_aw _ _ _ 12 [.ref 1, P_z 1] [P_z 1, .ref 1] _ _ from ?_)
  refine P_aw_oald P_i178_12 (by decide) (by decide) (by decide +kernel) (show P_aw _ _ _ 13 [.ref 1, P_z 1] [P_z 1] _ _ from ?_)
  refine P_aw_goto P_i178_13 (show P_aw _ _ _ 17 [.ref 1, P_z 1] [P_z 1] _ _ from ?_)
  refine P_aw_end P_i178_17 rfl rfl (fun _ => rfl) rfl ?_
  show P_aw _ _ _ 22 [P_un, P_z 0, P_z 1] [P_z 1] _ _
  refine P_aw_op (L' := [P_un, P_z 0, P_z 1]) (st' := [P_z 1, P_z 1]) P_i81_22 rfl (show P_aw _ _ _ 23 [P_un, P_z 0, P_z 1] [P_z 1, P_z 1] _ _ from ?_)
  refine P_aw_ict P_i81_23 ⟨by decide, by decide⟩ ⟨by decide, by decide⟩ (P_ci_eqt (by omega)) (show P_aw _ _ _ 28 [P_un, P_z 0, P_z 1] [] _ _ from ?_)
  refine P_aw_op (L' := [P_un, P_z 0, P_z 2]) (st' := []) P_i81_28 (P_o_iincv (x := 1) rfl (by decide)) (show P_aw _ _ _ 31 [P_un, P_z 0, P_z 2] [] _ _ from ?_)
  refine P_aw_goto P_i81_31 (show P_aw _ _ _ 8 [P_un, P_z 0, P_z 2] [] _ _ from ?_)
  refine P_aw_op (L' := [P_un, P_z 0, P_z 2]) (st' := [P_z 2]) P_i81_8 rfl (show P_aw _ _ _ 9 [P_un, P_z 0, P_z 2] [P_z 2] _ _ from ?_)
  refine P_aw_op (L' := [P_un, P_z 0, P_z 2]) (st' := [P_z 3, P_z 2]) P_i81_9 rfl (show P_aw _ _ _ 10 [P_un, P_z 0, P_z 2] [P_z 3, P_z 2] _ _ from ?_)
  refine P_aw_icf P_i81_10 ⟨by decide, by decide⟩ ⟨by decide, by decide⟩ (P_ci_gef (by omega)) (show P_aw _ _ _ 13 [P_un, P_z 0, P_z 2] [] _ _ from ?_)
  refine P_aw_gst P_i81_13 (show P_aw _ _ _ 16 [P_un, P_z 0, P_z 2] [.ref 1] _ _ from ?_)
  refine P_aw_op (L' := [P_un, P_z 0, P_z 2]) (st' := [P_z 0, .ref 1]) P_i81_16 rfl (show P_aw _ _ _ 17 [P_un, P_z 0, P_z 2] [P_z 0, .ref 1] _ _ from ?_)
  refine P_aw_op (L' := [P_un, P_z 0, P_z 2]) (st' := [P_z 2, P_z 0, .ref 1]) P_i81_17 rfl (show P_aw _ _ _ 18 [P_un, P_z 0, P_z 2] [P_z 2, P_z 0, .ref 1] _ _ from ?_)
  refine P_aw_op (L' := [P_un, P_z 0, P_z 2]) (st' := [P_z 2, .ref 1]) P_i81_18 P_o_iadd (show P_aw _ _ _ 19 [P_un, P_z 0, P_z 2] [P_z 2, .ref 1] _ _ from ?_)
  refine P_aw_call P_i81_19 rfl rfl (fun _ => rfl) rfl rfl rfl rfl (y2 := 178) (as := [.ref 1, P_z 2]) (r0 := []) (fun _ _ => rfl) (Nat.le_of_ble_eq_true rfl) (by decide) rfl (Nat.le_of_ble_eq_true rfl) (show P_aw _ _ _ 0 [.ref 1, P_z 2] [] _ _ from ?_)
  refine P_aw_op (L' := [.ref 1, P_z 2]) (st' := [P_z 2]) P_i178_0 rfl (show P_aw _ _ _ 1 [.ref 1, P_z 2] [P_z 2] _ _ from ?_)
  refine P_aw_izf P_i178_1 ⟨by decide, by decide⟩ (P_ci_ltf (by omega)) (show P_aw _ _ _ 4 [.ref 1, P_z 2] [] _ _ from ?_)
  refine P_aw_op (L' := [.ref 1, P_z 2]) (st' := [P_z 2]) P_i178_4 rfl (show P_aw _ _ _ 5 [.ref 1, P_z 2] [P_z 2] _ _ from ?_)
  refine P_aw_op (L' := [.ref 1, P_z 2]) (st' := [.ref 1, P_z 2]) P_i178_5 rfl (show P_aw _ _ _ 6 [.ref 1, P_z 2] [.ref 1, P_z 2] _ _ from ?_)
  refine P_aw_olen P_i178_6 (show P_aw _ _ _ 7 [.ref 1, P_z 2] [P_z 18, P_z 2] _ _ from ?_)
  refine P_aw_icf P_i178_7 ⟨by decide, by decide⟩ ⟨by decide, by decide⟩ (P_ci_gef (by omega)) (show P_aw _ _ _ 10 [.ref 1, P_z 2] [] _ _ from ?_)
  refine P_aw_op (L' := [.ref 1, P_z 2]) (st' := [.ref 1]) P_i178_10 rfl (show P_aw _ _ _ 11 [.ref 1, P_z 2] [.ref 1] _ _ from ?_)
  refine P_aw_op (L' := [.ref 1, P_z 2]) (st' := [P_z 2, .ref 1]) P_i178_11 rfl (show P_aw _ _ _ 12 [.ref 1, P_z 2] [P_z 2, .ref 1] _ _ from ?_)
  refine P_aw_oald P_i178_12 (by decide) (by decide) (by decide +kernel) (show P_aw _ _ _ 13 [.ref 1, P_z 2] [P_z 2] _ _ from ?_)
  refine P_aw_goto P_i178_13 (show P_aw _ _ _ 17 [.ref 1, P_z 2] [P_z 2] _ _ from ?_)
  refine P_aw_end P_i178_17 rfl rfl (fun _ => rfl) rfl ?_
  show P_aw _ _ _ 22 [P_un, P_z 0, P_z 2] [P_z 2] _ _
  refine P_aw_op (L' := [P_un, P_z 0, P_z 2]) (st' := [P_z 2, P_z 2]) P_i81_22 rfl (show P_aw _ _ _ 23 [P_un, P_z 0, P_z 2] [P_z 2, P_z 2] _ _ from ?_)
  refine P_aw_ict P_i81_23 ⟨by decide, by decide⟩ ⟨by decide, by decide⟩ (P_ci_eqt (by omega)) (show P_aw _ _ _ 28 [P_un, P_z 0, P_z 2] [] _ _ from ?_)
  refine P_aw_op (L' := [P_un, P_z 0, P_z 3]) (st' := []) P_i81_28 (P_o_iincv (x := 2) rfl (by decide)) (show P_aw _ _ _ 31 [P_un, P_z 0, P_z 3] [] _ _ from ?_)
  refine P_aw_goto P_i81_31 (show P_aw _ _ _ 8 [P_un, P_z 0, P_z 3] [] _ _ from ?_)
  refine P_aw_op (L' := [P_un, P_z 0, P_z 3]) (st' := [P_z 3]) P_i81_8 rfl (show P_aw _ _ _ 9 [P_un, P_z 0, P_z 3] [P_z 3] _ _ from ?_)
  refine P_aw_op (L' := [P_un, P_z 0, P_z 3]) (st' := [P_z 3, P_z 3]) P_i81_9 rfl (show P_aw _ _ _ 10 [P_un, P_z 0, P_z 3] [P_z 3, P_z 3] _ _ from ?_)
  refine P_aw_ict P_i81_10 ⟨by decide, by decide⟩ ⟨by decide, by decide⟩ (P_ci_get (by omega)) (show P_aw _ _ _ 34 [P_un, P_z 0, P_z 3] [] _ _ from ?_)
  refine P_aw_op (L' := [P_un, P_z 0, P_z 3]) (st' := [P_z 1]) P_i81_34 rfl (show P_aw _ _ _ 35 [P_un, P_z 0, P_z 3] [P_z 1] _ _ from ?_)
  refine P_aw_end P_i81_35 rfl rfl (fun _ => rfl) rfl ?_
  show P_aw _ _ _ 24 [.ref (w.2.2 13), P_zl x.1, P_un, P_z x.2, P_z 0, P_un, P_un] [P_z 1] _ _
  refine P_aw_izt P_i80_24 ⟨by decide, by decide⟩ (P_ci_net (by omega)) (show P_aw _ _ _ 30 [.ref (w.2.2 13), P_zl x.1, P_un, P_z x.2, P_z 0, P_un, P_un] [] _ _ from ?_)
  refine P_aw_op (L' := [.ref (w.2.2 13), P_zl x.1, P_un, P_z x.2, P_z 0, P_un, P_un]) (st' := [.ref (w.2.2 13)]) P_i80_30 rfl (show P_aw _ _ _ 31 [.ref (w.2.2 13), P_zl x.1, P_un, P_z x.2, P_z 0, P_un, P_un] [.ref (w.2.2 13)] _ _ from ?_)
  refine P_aw_op (L' := [.ref (w.2.2 13), P_zl x.1, P_un, P_z x.2, P_z 0, P_un, P_un]) (st' := [P_z 0, .ref (w.2.2 13)]) P_i80_31 rfl (show P_aw _ _ _ 33 [.ref (w.2.2 13), P_zl x.1, P_un, P_z x.2, P_z 0, P_un, P_un] [P_z 0, .ref (w.2.2 13)] _ _ from ?_)
  refine P_aw_call P_i80_33 rfl rfl (fun _ => rfl) rfl rfl rfl rfl (y2 := 82) (as := [.ref (w.2.2 13), P_z 0]) (r0 := []) (P_inv_v (hw.2.1 13 (by decide)) (hw.s rfl) rfl rfl) (Nat.le_of_ble_eq_true rfl) (by decide) rfl (Nat.le_of_ble_eq_true rfl) (s_bi hw (by omega) hC hs ?_)
  show P_aw _ _ _ 36 [.ref (w.2.2 13), P_zl x.1, P_un, P_z x.2, P_z 0, P_un, P_un] [] _ _
  refine P_aw_op (L' := [.ref (w.2.2 13), P_zl x.1, P_un, P_z x.2, P_z 0, P_un, P_un]) (st' := [.ref (w.2.2 13)]) P_i80_36 rfl (show P_aw _ _ _ 37 [.ref (w.2.2 13), P_zl x.1, P_un, P_z x.2, P_z 0, P_un, P_un] [.ref (w.2.2 13)] _ _ from ?_)
  have hp2 := A_cst_rg (nv := nv) (sz := sz) (cL := cL) (cS := cS) (cR := cR) hA hs
  refine P_aw_call P_i80_37 rfl rfl (fun _ => rfl) rfl rfl rfl rfl (y2 := 67) (as := [.ref (w.2.2 13)]) (r0 := []) (P_inv_v (hw.2.1 13 (by decide)) (hw.s rfl) rfl rfl) (Nat.le_of_ble_eq_true rfl) (by decide) rfl (Nat.le_of_ble_eq_true rfl) (s_cost hw (A_V_bi (by omega) hA) (A_O_bi (by omega) hs (by omega)) (A_C_bi hC) ((A_bi_ne (by omega) (by omega)).trans hN) hn01 ?_)
  show P_aw _ _ _ 40 [.ref (w.2.2 13), P_zl x.1, P_un, P_z x.2, P_z 0, P_un, P_un] [P_zl ((A_cst rw vr nv 1 sz cL cS cR) 0)] _ _
  refine P_aw_op (L' := [.ref (w.2.2 13), P_zl x.1, P_un, P_z x.2, P_z 0, P_zl ((A_cst rw vr nv 1 sz cL cS cR) 0), P_un]) (st' := []) P_i80_40 rfl (show P_aw _ _ _ 42 [.ref (w.2.2 13), P_zl x.1, P_un, P_z x.2, P_z 0, P_zl ((A_cst rw vr nv 1 sz cL cS cR) 0), P_un] [] _ _ from ?_)
  refine P_aw_op (L' := [.ref (w.2.2 13), P_zl x.1, P_un, P_z x.2, P_z 0, P_zl ((A_cst rw vr nv 1 sz cL cS cR) 0), P_un]) (st' := [P_zl x.1]) P_i80_42 rfl (show P_aw _ _ _ 43 [.ref (w.2.2 13), P_zl x.1, P_un, P_z x.2, P_z 0, P_zl ((A_cst rw vr nv 1 sz cL cS cR) 0), P_un] [P_zl x.1] _ _ from ?_)
  refine P_aw_op (L' := [.ref (w.2.2 13), P_zl x.1, P_un, P_z x.2, P_z 0, P_zl ((A_cst rw vr nv 1 sz cL cS cR) 0), P_un]) (st' := [P_zl (-1), P_zl x.1]) P_i80_43 rfl (show P_aw _ _ _ 46 [.ref (w.2.2 13), P_zl x.1, P_un, P_z x.2, P_z 0, P_zl ((A_cst rw vr nv 1 sz cL cS cR) 0), P_un] [P_zl (-1), P_zl x.1] _ _ from ?_)
  by_cases hc3 : x.1 = (-1)
  · refine P_aw_lct P_i80_46 P_i80_47 ⟨by omega, by omega⟩ ⟨by decide, by decide⟩ (P_ci_eqt (by omega)) (show P_aw _ _ _ 57 [.ref (w.2.2 13), P_zl x.1, P_un, P_z x.2, P_z 0, P_zl ((A_cst rw vr nv 1 sz cL cS cR) 0), P_un] [] _ _ from ?_)
    refine P_aw_op (L' := [.ref (w.2.2 13), P_zl x.1, P_un, P_z x.2, P_z 0, P_zl ((A_cst rw vr nv 1 sz cL cS cR) 0), P_un]) (st' := [P_zl ((A_cst rw vr nv 1 sz cL cS cR) 0)]) P_i80_57 rfl (show P_aw _ _ _ 59 [.ref (w.2.2 13), P_zl x.1, P_un, P_z x.2, P_z 0, P_zl ((A_cst rw vr nv 1 sz cL cS cR) 0), P_un] [P_zl ((A_cst rw vr nv 1 sz cL cS cR) 0)] _ _ from ?_)
    refine P_aw_op (L' := [.ref (w.2.2 13), P_zl ((A_cst rw vr nv 1 sz cL cS cR) 0), P_un, P_z x.2, P_z 0, P_zl ((A_cst rw vr nv 1 sz cL cS cR) 0), P_un]) (st' := []) P_i80_59 rfl (show P_aw _ _ _ 60 [.ref (w.2.2 13), P_zl ((A_cst rw vr nv 1 sz cL cS cR) 0), P_un, P_z x.2, P_z 0, P_zl ((A_cst rw vr nv 1 sz cL cS cR) 0), P_un] [] _ _ from ?_)
    refine P_aw_op (L' := [.ref (w.2.2 13), P_zl ((A_cst rw vr nv 1 sz cL cS cR) 0), P_un, P_z x.2, P_z 0, P_zl ((A_cst rw vr nv 1 sz cL cS cR) 0), P_un]) (st' := [P_z 0]) P_i80_60 rfl (show P_aw _ _ _ 62 [.ref (w.2.2 13), P_zl ((A_cst rw vr nv 1 sz cL cS cR) 0), P_un, P_z x.2, P_z 0, P_zl ((A_cst rw vr nv 1 sz cL cS cR) 0), P_un] [P_z 0] _ _ from ?_)
    refine P_aw_op (L' := [.ref (w.2.2 13), P_zl ((A_cst rw vr nv 1 sz cL cS cR) 0), P_un, P_z 0, P_z 0, P_zl ((A_cst rw vr nv 1 sz cL cS cR) 0), P_un]) (st' := []) P_i80_62 rfl (show P_aw _ _ _ 63 [.ref (w.2.2 13), P_zl ((A_cst rw vr nv 1 sz cL cS cR) 0), P_un, P_z 0, P_z 0, P_zl ((A_cst rw vr nv 1 sz cL cS cR) 0), P_un] [] _ _ from ?_)
    refine P_aw_op (L' := [.ref (w.2.2 13), P_zl ((A_cst rw vr nv 1 sz cL cS cR) 0), P_un, P_z 0, P_z 3, P_zl ((A_cst rw vr nv 1 sz cL cS cR) 0), P_un]) (st' := []) P_i80_63 (P_o_iincv (x := 0) rfl (by decide)) (show P_aw _ _ _ 66 [.ref (w.2.2 13), P_zl ((A_cst rw vr nv 1 sz cL cS cR) 0), P_un, P_z 0, P_z 3, P_zl ((A_cst rw vr nv 1 sz cL cS cR) 0), P_un] [] _ _ from ?_)
    refine P_aw_goto P_i80_66 (show P_aw _ _ _ 9 [.ref (w.2.2 13), P_zl ((A_cst rw vr nv 1 sz cL cS cR) 0), P_un, P_z 0, P_z 3, P_un, P_un] [] _ _ from ?_)
    exact (by simp only [A_bt] at q; first | (rw [if_pos (by omega)] at q; exact q) | (rw [if_neg (by omega)] at q; exact q))
  · refine P_aw_lcf P_i80_46 P_i80_47 ⟨by omega, by omega⟩ ⟨by decide, by decide⟩ (P_ci_eqf (by omega)) (show P_aw _ _ _ 50 [.ref (w.2.2 13), P_zl x.1, P_un, P_z x.2, P_z 0, P_zl ((A_cst rw vr nv 1 sz cL cS cR) 0), P_un] [] _ _ from ?_)
    refine P_aw_op (L' := [.ref (w.2.2 13), P_zl x.1, P_un, P_z x.2, P_z 0, P_zl ((A_cst rw vr nv 1 sz cL cS cR) 0), P_un]) (st' := [P_zl ((A_cst rw vr nv 1 sz cL cS cR) 0)]) P_i80_50 rfl (show P_aw _ _ _ 52 [.ref (w.2.2 13), P_zl x.1, P_un, P_z x.2, P_z 0, P_zl ((A_cst rw vr nv 1 sz cL cS cR) 0), P_un] [P_zl ((A_cst rw vr nv 1 sz cL cS cR) 0)] _ _ from ?_)
    refine P_aw_op (L' := [.ref (w.2.2 13), P_zl x.1, P_un, P_z x.2, P_z 0, P_zl ((A_cst rw vr nv 1 sz cL cS cR) 0), P_un]) (st' := [P_zl x.1, P_zl ((A_cst rw vr nv 1 sz cL cS cR) 0)]) P_i80_52 rfl (show P_aw _ _ _ 53 [.ref (w.2.2 13), P_zl x.1, P_un, P_z x.2, P_z 0, P_zl ((A_cst rw vr nv 1 sz cL cS cR) 0), P_un] [P_zl x.1, P_zl ((A_cst rw vr nv 1 sz cL cS cR) 0)] _ _ from ?_)
    rcases Int.lt_or_le ((A_cst rw vr nv 1 sz cL cS cR) 0) x.1 with hc4 | hc4
    · refine P_aw_lcf P_i80_53 P_i80_54 ⟨by omega, by omega⟩ ⟨by omega, by omega⟩ (P_ci_gef (by omega)) (show P_aw _ _ _ 57 [.ref (w.2.2 13), P_zl x.1, P_un, P_z x.2, P_z 0, P_zl ((A_cst rw vr nv 1 sz cL cS cR) 0), P_un] [] _ _ from ?_)
      refine P_aw_op (L' := [.ref (w.2.2 13), P_zl x.1, P_un, P_z x.2, P_z 0, P_zl ((A_cst rw vr nv 1 sz cL cS cR) 0), P_un]) (st' := [P_zl ((A_cst rw vr nv 1 sz cL cS cR) 0)]) P_i80_57 rfl (show P_aw _ _ _ 59 [.ref (w.2.2 13), P_zl x.1, P_un, P_z x.2, P_z 0, P_zl ((A_cst rw vr nv 1 sz cL cS cR) 0), P_un] [P_zl ((A_cst rw vr nv 1 sz cL cS cR) 0)] _ _ from ?_)
      refine P_aw_op (L' := [.ref (w.2.2 13), P_zl ((A_cst rw vr nv 1 sz cL cS cR) 0), P_un, P_z x.2, P_z 0, P_zl ((A_cst rw vr nv 1 sz cL cS cR) 0), P_un]) (st' := []) P_i80_59 rfl (show P_aw _ _ _ 60 [.ref (w.2.2 13), P_zl ((A_cst rw vr nv 1 sz cL cS cR) 0), P_un, P_z x.2, P_z 0, P_zl ((A_cst rw vr nv 1 sz cL cS cR) 0), P_un] [] _ _ from ?_)
      refine P_aw_op (L' := [.ref (w.2.2 13), P_zl ((A_cst rw vr nv 1 sz cL cS cR) 0), P_un, P_z x.2, P_z 0, P_zl ((A_cst rw vr nv 1 sz cL cS cR) 0), P_un]) (st' := [P_z 0]) P_i80_60 rfl (show P_aw _ _ _ 62 [.ref (w.2.2 13), P_zl ((A_cst rw vr nv 1 sz cL cS cR) 0), P_un, P_z x.2, P_z 0, P_zl ((A_cst rw vr nv 1 sz cL cS cR) 0), P_un] [P_z 0] _ _ from ?_)
      refine P_aw_op (L' := [.ref (w.2.2 13), P_zl ((A_cst rw vr nv 1 sz cL cS cR) 0), P_un, P_z 0, P_z 0, P_zl ((A_cst rw vr nv 1 sz cL cS cR) 0), P_un]) (st' := []) P_i80_62 rfl (show P_aw _ _ _ 63 [.ref (w.2.2 13), P_zl ((A_cst rw vr nv 1 sz cL cS cR) 0), P_un, P_z 0, P_z 0, P_zl ((A_cst rw vr nv 1 sz cL cS cR) 0), P_un] [] _ _ from ?_)
      refine P_aw_op (L' := [.ref (w.2.2 13), P_zl ((A_cst rw vr nv 1 sz cL cS cR) 0), P_un, P_z 0, P_z 3, P_zl ((A_cst rw vr nv 1 sz cL cS cR) 0), P_un]) (st' := []) P_i80_63 (P_o_iincv (x := 0) rfl (by decide)) (show P_aw _ _ _ 66 [.ref (w.2.2 13), P_zl ((A_cst rw vr nv 1 sz cL cS cR) 0), P_un, P_z 0, P_z 3, P_zl ((A_cst rw vr nv 1 sz cL cS cR) 0), P_un] [] _ _ from ?_)
      refine P_aw_goto P_i80_66 (show P_aw _ _ _ 9 [.ref (w.2.2 13), P_zl ((A_cst rw vr nv 1 sz cL cS cR) 0), P_un, P_z 0, P_z 3, P_un, P_un] [] _ _ from ?_)
      exact (by simp only [A_bt] at q; first | (rw [if_pos (by omega)] at q; exact q) | (rw [if_neg (by omega)] at q; exact q))
    · refine P_aw_lct P_i80_53 P_i80_54 ⟨by omega, by omega⟩ ⟨by omega, by omega⟩ (P_ci_get (by omega)) (show P_aw _ _ _ 63 [.ref (w.2.2 13), P_zl x.1, P_un, P_z x.2, P_z 0, P_zl ((A_cst rw vr nv 1 sz cL cS cR) 0), P_un] [] _ _ from ?_)
      refine P_aw_op (L' := [.ref (w.2.2 13), P_zl x.1, P_un, P_z x.2, P_z 3, P_zl ((A_cst rw vr nv 1 sz cL cS cR) 0), P_un]) (st' := []) P_i80_63 (P_o_iincv (x := 0) rfl (by decide)) (show P_aw _ _ _ 66 [.ref (w.2.2 13), P_zl x.1, P_un, P_z x.2, P_z 3, P_zl ((A_cst rw vr nv 1 sz cL cS cR) 0), P_un] [] _ _ from ?_)
      refine P_aw_goto P_i80_66 (show P_aw _ _ _ 9 [.ref (w.2.2 13), P_zl x.1, P_un, P_z x.2, P_z 3, P_un, P_un] [] _ _ from ?_)
      exact (by simp only [A_bt] at q; first | (rw [if_pos (by omega)] at q; exact q) | (rw [if_neg (by omega)] at q; exact q))

theorem s_bt1_3 {w : P_Lw} (hw : P_Cw w) {d : Nat} {Q : P_R → P_A → Prop} {σ : P_A} {tb : Int → Nat} {rw : Int → Int} {vr : Int → Int → Int} (hA : A_V w σ 1 tb rw vr) {sz : Int} {cL cS cR cV : Int → Int} (hC : A_C σ 1 sz cL cS cR cV) {nv : Int} (hN : σ 13 5 = nv) (hn01 : 0 ≤ nv ∧ nv ≤ 1) {x : Int × Int} (hx : -1 ≤ x.1 ∧ x.1 ≤ 3000) (q : P_aw w (d + 8) 80 9 [.ref (w.2.2 13), P_zl x.1, P_un, P_z x.2, P_z 6, P_un, P_un] [] σ Q) : P_aw w (d + 8) 80 9 [.ref (w.2.2 13), P_zl x.1, P_un, P_z x.2, P_z 3, P_un, P_un] [] σ Q := by
  have hsz := hC.2.1
  refine P_aw_op (L' := [.ref (w.2.2 13), P_zl x.1, P_un, P_z x.2, P_z 3, P_un, P_un]) (st' := [P_z 3]) P_i80_9 rfl (show P_aw _ _ _ 11 [.ref (w.2.2 13), P_zl x.1, P_un, P_z x.2, P_z 3, P_un, P_un] [P_z 3] _ _ from ?_)
  refine P_aw_gst P_i80_11 (show P_aw _ _ _ 14 [.ref (w.2.2 13), P_zl x.1, P_un, P_z x.2, P_z 3, P_un, P_un] [.ref 1, P_z 3] _ _ from ?_)
  refine P_aw_olen P_i80_14 (show P_aw _ _ _ 15 [.ref (w.2.2 13), P_zl x.1, P_un, P_z x.2, P_z 3, P_un, P_un] [P_z 18, P_z 3] _ _ from ?_)
  refine P_aw_icf P_i80_15 ⟨by decide, by decide⟩ ⟨by decide, by decide⟩ (P_ci_gef (by omega)) (show P_aw _ _ _ 18 [.ref (w.2.2 13), P_zl x.1, P_un, P_z x.2, P_z 3, P_un, P_un] [] _ _ from ?_)
  refine P_aw_op (L' := [.ref (w.2.2 13), P_zl x.1, P_un, P_z x.2, P_z 3, P_un, P_un]) (st' := [.ref (w.2.2 13)]) P_i80_18 rfl (show P_aw _ _ _ 19 [.ref (w.2.2 13), P_zl x.1, P_un, P_z x.2, P_z 3, P_un, P_un] [.ref (w.2.2 13)] _ _ from ?_)
  refine P_aw_op (L' := [.ref (w.2.2 13), P_zl x.1, P_un, P_z x.2, P_z 3, P_un, P_un]) (st' := [P_z 3, .ref (w.2.2 13)]) P_i80_19 rfl (show P_aw _ _ _ 21 [.ref (w.2.2 13), P_zl x.1, P_un, P_z x.2, P_z 3, P_un, P_un] [P_z 3, .ref (w.2.2 13)] _ _ from ?_)
  refine P_aw_call P_i80_21 rfl rfl (fun _ => rfl) rfl rfl rfl rfl (y2 := 81) (as := [.ref (w.2.2 13), P_z 3]) (r0 := []) (P_inv_v (hw.2.1 13 (by decide)) (hw.s rfl) rfl rfl) (Nat.le_of_ble_eq_true rfl) (by decide) rfl (Nat.le_of_ble_eq_true rfl) (show P_aw _ _ _ 0 [.ref (w.2.2 13), P_z 3, P_un] [] _ _ from ?_)
  refine P_aw_op (L' := [.ref (w.2.2 13), P_z 3, P_un]) (st' := [.ref (w.2.2 13)]) P_i81_0 rfl (show P_aw _ _ _ 1 [.ref (w.2.2 13), P_z 3, P_un] [.ref (w.2.2 13)] _ _ from ?_)
  refine P_aw_getR P_i81_1 (hw.2.1 13 (by decide)) (hw.s rfl) rfl rfl (show P_aw _ _ _ 4 [.ref (w.2.2 13), P_z 3, P_un] [.ref (w.2.2 6)] _ _ from ?_)
  refine P_aw_call P_i81_4 rfl rfl (fun _ => rfl) rfl rfl rfl rfl (y2 := 30) (as := [.ref (w.2.2 6)]) (r0 := []) (P_inv_v (hw.2.1 6 (by decide)) (hw.s rfl) rfl rfl) (Nat.le_of_ble_eq_true rfl) (by decide) rfl (Nat.le_of_ble_eq_true rfl) (show P_aw _ _ _ 0 [.ref (w.2.2 6)] [] _ _ from ?_)
  refine P_aw_op (L' := [.ref (w.2.2 6)]) (st' := [.ref (w.2.2 6)]) P_i30_0 rfl (show P_aw _ _ _ 1 [.ref (w.2.2 6)] [.ref (w.2.2 6)] _ _ from ?_)
  have hg1 := hA.2.1
  refine P_aw_getv P_i30_1 (hw.2.1 6 (by decide)) (hw.s rfl) rfl rfl (hA.1) (show P_aw _ _ _ 4 [.ref (w.2.2 6)] [P_z 1] _ _ from ?_)
  refine P_aw_end P_i30_4 rfl rfl (fun _ => rfl) rfl ?_
  show P_aw _ _ _ 7 [.ref (w.2.2 13), P_z 3, P_un] [P_z 1] _ _
  refine P_aw_op (L' := [.ref (w.2.2 13), P_z 3, P_z 1]) (st' := []) P_i81_7 rfl (show P_aw _ _ _ 8 [P_un, P_z 3, P_z 1] [] _ _ from ?_)
  refine P_aw_op (L' := [P_un, P_z 3, P_z 1]) (st' := [P_z 1]) P_i81_8 rfl (show P_aw _ _ _ 9 [P_un, P_z 3, P_z 1] [P_z 1] _ _ from ?_)
  refine P_aw_op (L' := [P_un, P_z 3, P_z 1]) (st' := [P_z 3, P_z 1]) P_i81_9 rfl (show P_aw _ _ _ 10 [P_un, P_z 3, P_z 1] [P_z 3, P_z 1] _ _ from ?_)
  refine P_aw_icf P_i81_10 ⟨by decide, by decide⟩ ⟨by decide, by decide⟩ (P_ci_gef (by omega)) (show P_aw _ _ _ 13 [P_un, P_z 3, P_z 1] [] _ _ from ?_)
  refine P_aw_gst P_i81_13 (show P_aw _ _ _ 16 [P_un, P_z 3, P_z 1] [.ref 1] _ _ from ?_)
  refine P_aw_op (L' := [P_un, P_z 3, P_z 1]) (st' := [P_z 3, .ref 1]) P_i81_16 rfl (show P_aw _ _ _ 17 [P_un, P_z 3, P_z 1] [P_z 3, .ref 1] _ _ from ?_)
  refine P_aw_op (L' := [P_un, P_z 3, P_z 1]) (st' := [P_z 1, P_z 3, .ref 1]) P_i81_17 rfl (show P_aw _ _ _ 18 [P_un, P_z 3, P_z 1] [P_z 1, P_z 3, .ref 1] _ _ from ?_)
  refine P_aw_op (L' := [P_un, P_z 3, P_z 1]) (st' := [P_z 4, .ref 1]) P_i81_18 P_o_iadd (show P_aw _ _ _ 19 [P_un, P_z 3, P_z 1] [P_z 4, .ref 1] _ _ from ?_)
  refine P_aw_call P_i81_19 rfl rfl (fun _ => rfl) rfl rfl rfl rfl (y2 := 178) (as := [.ref 1, P_z 4]) (r0 := []) (fun _ _ => rfl) (Nat.le_of_ble_eq_true rfl) (by decide) rfl (Nat.le_of_ble_eq_true rfl) (show P_aw _ _ _ 0 [.ref 1, P_z 4] [] _ _ from ?_)
  refine P_aw_op (L' := [.ref 1, P_z 4]) (st' := [P_z 4]) P_i178_0 rfl (show P_aw _ _ _ 1 [.ref 1, P_z 4] [P_z 4] _ _ from ?_)
  refine P_aw_izf P_i178_1 ⟨by decide, by decide⟩ (P_ci_ltf (by omega)) (show P_aw _ _ _ 4 [.ref 1, P_z 4] [] _ _ from ?_)
  refine P_aw_op (L' := [.ref 1, P_z 4]) (st' := [P_z 4]) P_i178_4 rfl (show P_aw _ _ _ 5 [.ref 1, P_z 4] [P_z 4] _ _ from ?_)
  refine P_aw_op (L' := [.ref 1, P_z 4]) (st' := [.ref 1, P_z 4]) P_i178_5 rfl (show P_aw _ _ _ 6 [.ref 1, P_z 4] [.ref 1, P_z 4] _ _ from ?_)
  refine P_aw_olen P_i178_6 (show P_aw _ _ _ 7 [.ref 1, P_z 4] [P_z 18, P_z 4] _ _ from ?_)
  refine P_aw_icf P_i178_7 ⟨by decide, by decide⟩ ⟨by decide, by decide⟩ (P_ci_gef (by omega)) (show P_aw _ _ _ 10 [.ref 1, P_z 4] [] _ _ from ?_)
  refine P_aw_op (L' := [.ref 1, P_z 4]) (st' := [.ref 1]) P_i178_10 rfl (show P_aw _ _ _ 11 [.ref 1, P_z 4] [.ref 1] _ _ from ?_)
  refine P_aw_op (L' := [.ref 1, P_z 4]) (st' := [P_z 4, .ref 1]) P_i178_11 rfl (show P_aw _ _ _ 12 [.ref 1, P_z 4] [P_z 4, .ref 1] _ _ from ?_)
  refine P_aw_oald P_i178_12 (by decide) (by decide) (by decide +kernel) (show P_aw _ _ _ 13 [.ref 1, P_z 4] [P_z 2] _ _ from ?_)
  refine P_aw_goto P_i178_13 (show P_aw _ _ _ 17 [.ref 1, P_z 4] [P_z 2] _ _ from ?_)
  refine P_aw_end P_i178_17 rfl rfl (fun _ => rfl) rfl ?_
  show P_aw _ _ _ 22 [P_un, P_z 3, P_z 1] [P_z 2] _ _
  refine P_aw_op (L' := [P_un, P_z 3, P_z 1]) (st' := [P_z 1, P_z 2]) P_i81_22 rfl (show P_aw _ _ _ 23 [P_un, P_z 3, P_z 1] [P_z 1, P_z 2] _ _ from ?_)
  refine P_aw_icf P_i81_23 ⟨by decide, by decide⟩ ⟨by decide, by decide⟩ (P_ci_eqf (by omega)) (show P_aw _ _ _ 26 [P_un, P_z 3, P_z 1] [] _ _ from ?_)
  refine P_aw_op (L' := [P_un, P_z 3, P_z 1]) (st' := [P_z 0]) P_i81_26 rfl (show P_aw _ _ _ 27 [P_un, P_z 3, P_z 1] [P_z 0] _ _ from ?_)
  refine P_aw_end P_i81_27 rfl rfl (fun _ => rfl) rfl ?_
  show P_aw _ _ _ 24 [.ref (w.2.2 13), P_zl x.1, P_un, P_z x.2, P_z 3, P_un, P_un] [P_z 0] _ _
  refine P_aw_izf P_i80_24 ⟨by decide, by decide⟩ (P_ci_nef (by omega)) (show P_aw _ _ _ 27 [.ref (w.2.2 13), P_zl x.1, P_un, P_z x.2, P_z 3, P_un, P_un] [] _ _ from ?_)
  refine P_aw_goto P_i80_27 (show P_aw _ _ _ 63 [.ref (w.2.2 13), P_zl x.1, P_un, P_z x.2, P_z 3, P_un, P_un] [] _ _ from ?_)
  refine P_aw_op (L' := [.ref (w.2.2 13), P_zl x.1, P_un, P_z x.2, P_z 6, P_un, P_un]) (st' := []) P_i80_63 (P_o_iincv (x := 3) rfl (by decide)) (show P_aw _ _ _ 66 [.ref (w.2.2 13), P_zl x.1, P_un, P_z x.2, P_z 6, P_un, P_un] [] _ _ from ?_)
  refine P_aw_goto P_i80_66 (show P_aw _ _ _ 9 [.ref (w.2.2 13), P_zl x.1, P_un, P_z x.2, P_z 6, P_un, P_un] [] _ _ from ?_)
  exact q

theorem s_bt1_6 {w : P_Lw} (hw : P_Cw w) {d : Nat} {Q : P_R → P_A → Prop} {σ : P_A} {tb : Int → Nat} {rw : Int → Int} {vr : Int → Int → Int} (hA : A_V w σ 1 tb rw vr) {sz : Int} {cL cS cR cV : Int → Int} (hC : A_C σ 1 sz cL cS cR cV) {nv : Int} (hN : σ 13 5 = nv) (hn01 : 0 ≤ nv ∧ nv ≤ 1) {x : Int × Int} (hx : -1 ≤ x.1 ∧ x.1 ≤ 3000) (q : P_aw w (d + 8) 80 9 [.ref (w.2.2 13), P_zl x.1, P_un, P_z x.2, P_z 9, P_un, P_un] [] σ Q) : P_aw w (d + 8) 80 9 [.ref (w.2.2 13), P_zl x.1, P_un, P_z x.2, P_z 6, P_un, P_un] [] σ Q := by
  have hsz := hC.2.1
  refine P_aw_op (L' := [.ref (w.2.2 13), P_zl x.1, P_un, P_z x.2, P_z 6, P_un, P_un]) (st' := [P_z 6]) P_i80_9 rfl (show P_aw _ _ _ 11 [.ref (w.2.2 13), P_zl x.1, P_un, P_z x.2, P_z 6, P_un, P_un] [P_z 6] _ _ from ?_)
  refine P_aw_gst P_i80_11 (show P_aw _ _ _ 14 [.ref (w.2.2 13), P_zl x.1, P_un, P_z x.2, P_z 6, P_un, P_un] [.ref 1, P_z 6] _ _ from ?_)
  refine P_aw_olen P_i80_14 (show P_aw _ _ _ 15 [.ref (w.2.2 13), P_zl x.1, P_un, P_z x.2, P_z 6, P_un, P_un] [P_z 18, P_z 6] _ _ from ?_)
  refine P_aw_icf P_i80_15 ⟨by decide, by decide⟩ ⟨by decide, by decide⟩ (P_ci_gef (by omega)) (show P_aw _ _ _ 18 [.ref (w.2.2 13), P_zl x.1, P_un, P_z x.2, P_z 6, P_un, P_un] [] _ _ from ?_)
  refine P_aw_op (L' := [.ref (w.2.2 13), P_zl x.1, P_un, P_z x.2, P_z 6, P_un, P_un]) (st' := [.ref (w.2.2 13)]) P_i80_18 rfl (show P_aw _ _ _ 19 [.ref (w.2.2 13), P_zl x.1, P_un, P_z x.2, P_z 6, P_un, P_un] [.ref (w.2.2 13)] _ _ from ?_)
  refine P_aw_op (L' := [.ref (w.2.2 13), P_zl x.1, P_un, P_z x.2, P_z 6, P_un, P_un]) (st' := [P_z 6, .ref (w.2.2 13)]) P_i80_19 rfl (show P_aw _ _ _ 21 [.ref (w.2.2 13), P_zl x.1, P_un, P_z x.2, P_z 6, P_un, P_un] [P_z 6, .ref (w.2.2 13)] _ _ from ?_)
  refine P_aw_call P_i80_21 rfl rfl (fun _ => rfl) rfl rfl rfl rfl (y2 := 81) (as := [.ref (w.2.2 13), P_z 6]) (r0 := []) (P_inv_v (hw.2.1 13 (by decide)) (hw.s rfl) rfl rfl) (Nat.le_of_ble_eq_true rfl) (by decide) rfl (Nat.le_of_ble_eq_true rfl) (show P_aw _ _ _ 0 [.ref (w.2.2 13), P_z 6, P_un] [] _ _ from ?_)
  refine P_aw_op (L' := [.ref (w.2.2 13), P_z 6, P_un]) (st' := [.ref (w.2.2 13)]) P_i81_0 rfl (show P_aw _ _ _ 1 [.ref (w.2.2 13), P_z 6, P_un] [.ref (w.2.2 13)] _ _ from ?_)
  refine P_aw_getR P_i81_1 (hw.2.1 13 (by decide)) (hw.s rfl) rfl rfl (show P_aw _ _ _ 4 [.ref (w.2.2 13), P_z 6, P_un] [.ref (w.2.2 6)] _ _ from ?_)
  refine P_aw_call P_i81_4 rfl rfl (fun _ => rfl) rfl rfl rfl rfl (y2 := 30) (as := [.ref (w.2.2 6)]) (r0 := []) (P_inv_v (hw.2.1 6 (by decide)) (hw.s rfl) rfl rfl) (Nat.le_of_ble_eq_true rfl) (by decide) rfl (Nat.le_of_ble_eq_true rfl) (show P_aw _ _ _ 0 [.ref (w.2.2 6)] [] _ _ from ?_)
  refine P_aw_op (L' := [.ref (w.2.2 6)]) (st' := [.ref (w.2.2 6)]) P_i30_0 rfl (show P_aw _ _ _ 1 [.ref (w.2.2 6)] [.ref (w.2.2 6)] _ _ from ?_)
  have hg1 := hA.2.1
  refine P_aw_getv P_i30_1 (hw.2.1 6 (by decide)) (hw.s rfl) rfl rfl (hA.1) (show P_aw _ _ _ 4 [.ref (w.2.2 6)] [P_z 1] _ _ from ?_)
  refine P_aw_end P_i30_4 rfl rfl (fun _ => rfl) rfl ?_
  show P_aw _ _ _ 7 [.ref (w.2.2 13), P_z 6, P_un] [P_z 1] _ _
  refine P_aw_op (L' := [.ref (w.2.2 13), P_z 6, P_z 1]) (st' := []) P_i81_7 rfl (show P_aw _ _ _ 8 [P_un, P_z 6, P_z 1] [] _ _ from ?_)
  refine P_aw_op (L' := [P_un, P_z 6, P_z 1]) (st' := [P_z 1]) P_i81_8 rfl (show P_aw _ _ _ 9 [P_un, P_z 6, P_z 1] [P_z 1] _ _ from ?_)
  refine P_aw_op (L' := [P_un, P_z 6, P_z 1]) (st' := [P_z 3, P_z 1]) P_i81_9 rfl (show P_aw _ _ _ 10 [P_un, P_z 6, P_z 1] [P_z 3, P_z 1] _ _ from ?_)
  refine P_aw_icf P_i81_10 ⟨by decide, by decide⟩ ⟨by decide, by decide⟩ (P_ci_gef (by omega)) (show P_aw _ _ _ 13 [P_un, P_z 6, P_z 1] [] _ _ from ?_)
  refine P_aw_gst P_i81_13 (show P_aw _ _ _ 16 [P_un, P_z 6, P_z 1] [.ref 1] _ _ from ?_)
  refine P_aw_op (L' := [P_un, P_z 6, P_z 1]) (st' := [P_z 6, .ref 1]) P_i81_16 rfl (show P_aw _ _ _ 17 [P_un, P_z 6, P_z 1] [P_z 6, .ref 1] _ _ from ?_)
  refine P_aw_op (L' := [P_un, P_z 6, P_z 1]) (st' := [P_z 1, P_z 6, .ref 1]) P_i81_17 rfl (show P_aw _ _ _ 18 [P_un, P_z 6, P_z 1] [P_z 1, P_z 6, .ref 1] _ _ from ?_)
  refine P_aw_op (L' := [P_un, P_z 6, P_z 1]) (st' := [P_z 7, .ref 1]) P_i81_18 P_o_iadd (show P_aw _ _ _ 19 [P_un, P_z 6, P_z 1] [P_z 7, .ref 1] _ _ from ?_)
  refine P_aw_call P_i81_19 rfl rfl (fun _ => rfl) rfl rfl rfl rfl (y2 := 178) (as := [.ref 1, P_z 7]) (r0 := []) (fun _ _ => rfl) (Nat.le_of_ble_eq_true rfl) (by decide) rfl (Nat.le_of_ble_eq_true rfl) (show P_aw _ _ _ 0 [.ref 1, P_z 7] [] _ _ from ?_)
  refine P_aw_op (L' := [.ref 1, P_z 7]) (st' := [P_z 7]) P_i178_0 rfl (show P_aw _ _ _ 1 [.ref 1, P_z 7] [P_z 7] _ _ from ?_)
  refine P_aw_izf P_i178_1 ⟨by decide, by decide⟩ (P_ci_ltf (by omega)) (show P_aw _ _ _ 4 [.ref 1, P_z 7] [] _ _ from ?_)
  refine P_aw_op (L' := [.ref 1, P_z 7]) (st' := [P_z 7]) P_i178_4 rfl (show P_aw _ _ _ 5 [.ref 1, P_z 7] [P_z 7] _ _ from ?_)
  refine P_aw_op (L' := [.ref 1, P_z 7]) (st' := [.ref 1, P_z 7]) P_i178_5 rfl (show P_aw _ _ _ 6 [.ref 1, P_z 7] [.ref 1, P_z 7] _ _ from ?_)
  refine P_aw_olen P_i178_6 (show P_aw _ _ _ 7 [.ref 1, P_z 7] [P_z 18, P_z 7] _ _ from ?_)
  refine P_aw_icf P_i178_7 ⟨by decide, by decide⟩ ⟨by decide, by decide⟩ (P_ci_gef (by omega)) (show P_aw _ _ _ 10 [.ref 1, P_z 7] [] _ _ from ?_)
  refine P_aw_op (L' := [.ref 1, P_z 7]) (st' := [.ref 1]) P_i178_10 rfl (show P_aw _ _ _ 11 [.ref 1, P_z 7] [.ref 1] _ _ from ?_)
  refine P_aw_op (L' := [.ref 1, P_z 7]) (st' := [P_z 7, .ref 1]) P_i178_11 rfl (show P_aw _ _ _ 12 [.ref 1, P_z 7] [P_z 7, .ref 1] _ _ from ?_)
  refine P_aw_oald P_i178_12 (by decide) (by decide) (by decide +kernel) (show P_aw _ _ _ 13 [.ref 1, P_z 7] [P_z 0] _ _ from ?_)
  refine P_aw_goto P_i178_13 (show P_aw _ _ _ 17 [.ref 1, P_z 7] [P_z 0] _ _ from ?_)
  refine P_aw_end P_i178_17 rfl rfl (fun _ => rfl) rfl ?_
  show P_aw _ _ _ 22 [P_un, P_z 6, P_z 1] [P_z 0] _ _
  refine P_aw_op (L' := [P_un, P_z 6, P_z 1]) (st' := [P_z 1, P_z 0]) P_i81_22 rfl (show P_aw _ _ _ 23 [P_un, P_z 6, P_z 1] [P_z 1, P_z 0] _ _ from ?_)
  refine P_aw_icf P_i81_23 ⟨by decide, by decide⟩ ⟨by decide, by decide⟩ (P_ci_eqf (by omega)) (show P_aw _ _ _ 26 [P_un, P_z 6, P_z 1] [] _ _ from ?_)
  refine P_aw_op (L' := [P_un, P_z 6, P_z 1]) (st' := [P_z 0]) P_i81_26 rfl (show P_aw _ _ _ 27 [P_un, P_z 6, P_z 1] [P_z 0] _ _ from ?_)
  refine P_aw_end P_i81_27 rfl rfl (fun _ => rfl) rfl ?_
  show P_aw _ _ _ 24 [.ref (w.2.2 13), P_zl x.1, P_un, P_z x.2, P_z 6, P_un, P_un] [P_z 0] _ _
  refine P_aw_izf P_i80_24 ⟨by decide, by decide⟩ (P_ci_nef (by omega)) (show P_aw _ _ _ 27 [.ref (w.2.2 13), P_zl x.1, P_un, P_z x.2, P_z 6, P_un, P_un] [] _ _ from ?_)
  refine P_aw_goto P_i80_27 (show P_aw _ _ _ 63 [.ref (w.2.2 13), P_zl x.1, P_un, P_z x.2, P_z 6, P_un, P_un] [] _ _ from ?_)
  refine P_aw_op (L' := [.ref (w.2.2 13), P_zl x.1, P_un, P_z x.2, P_z 9, P_un, P_un]) (st' := []) P_i80_63 (P_o_iincv (x := 6) rfl (by decide)) (show P_aw _ _ _ 66 [.ref (w.2.2 13), P_zl x.1, P_un, P_z x.2, P_z 9, P_un, P_un] [] _ _ from ?_)
  refine P_aw_goto P_i80_66 (show P_aw _ _ _ 9 [.ref (w.2.2 13), P_zl x.1, P_un, P_z x.2, P_z 9, P_un, P_un] [] _ _ from ?_)
  exact q

theorem s_bt1_9 {w : P_Lw} (hw : P_Cw w) {d : Nat} {Q : P_R → P_A → Prop} {σ : P_A} {tb : Int → Nat} {rw : Int → Int} {vr : Int → Int → Int} (hA : A_V w σ 1 tb rw vr) {sz : Int} {cL cS cR cV : Int → Int} (hC : A_C σ 1 sz cL cS cR cV) {nv : Int} (hN : σ 13 5 = nv) (hn01 : 0 ≤ nv ∧ nv ≤ 1) {x : Int × Int} (hx : -1 ≤ x.1 ∧ x.1 ≤ 3000) (q : P_aw w (d + 8) 80 9 [.ref (w.2.2 13), P_zl x.1, P_un, P_z x.2, P_z 12, P_un, P_un] [] σ Q) : P_aw w (d + 8) 80 9 [.ref (w.2.2 13), P_zl x.1, P_un, P_z x.2, P_z 9, P_un, P_un] [] σ Q := by
  have hsz := hC.2.1
  refine P_aw_op (L' := [.ref (w.2.2 13), P_zl x.1, P_un, P_z x.2, P_z 9, P_un, P_un]) (st' := [P_z 9]) P_i80_9 rfl (show P_aw _ _ _ 11 [.ref (w.2.2 13), P_zl x.1, P_un, P_z x.2, P_z 9, P_un, P_un] [P_z 9] _ _ from ?_)
  refine P_aw_gst P_i80_11 (show P_aw _ _ _ 14 [.ref (w.2.2 13), P_zl x.1, P_un, P_z x.2, P_z 9, P_un, P_un] [.ref 1, P_z 9] _ _ from ?_)
  refine P_aw_olen P_i80_14 (show P_aw _ _ _ 15 [.ref (w.2.2 13), P_zl x.1, P_un, P_z x.2, P_z 9, P_un, P_un] [P_z 18, P_z 9] _ _ from ?_)
  refine P_aw_icf P_i80_15 ⟨by decide, by decide⟩ ⟨by decide, by decide⟩ (P_ci_gef (by omega)) (show P_aw _ _ _ 18 [.ref (w.2.2 13), P_zl x.1, P_un, P_z x.2, P_z 9, P_un, P_un] [] _ _ from ?_)
  refine P_aw_op (L' := [.ref (w.2.2 13), P_zl x.1, P_un, P_z x.2, P_z 9, P_un, P_un]) (st' := [.ref (w.2.2 13)]) P_i80_18 rfl (show P_aw _ _ _ 19 [.ref (w.2.2 13), P_zl x.1, P_un, P_z x.2, P_z 9, P_un, P_un] [.ref (w.2.2 13)] _ _ from ?_)
  refine P_aw_op (L' := [.ref (w.2.2 13), P_zl x.1, P_un, P_z x.2, P_z 9, P_un, P_un]) (st' := [P_z 9, .ref (w.2.2 13)]) P_i80_19 rfl (show P_aw _ _ _ 21 [.ref (w.2.2 13), P_zl x.1, P_un, P_z x.2, P_z 9, P_un, P_un] [P_z 9, .ref (w.2.2 13)] _ _ from ?_)
  refine P_aw_call P_i80_21 rfl rfl (fun _ => rfl) rfl rfl rfl rfl (y2 := 81) (as := [.ref (w.2.2 13), P_z 9]) (r0 := []) (P_inv_v (hw.2.1 13 (by decide)) (hw.s rfl) rfl rfl) (Nat.le_of_ble_eq_true rfl) (by decide) rfl (Nat.le_of_ble_eq_true rfl) (show P_aw _ _ _ 0 [.ref (w.2.2 13), P_z 9, P_un] [] _ _ from ?_)
  refine P_aw_op (L' := [.ref (w.2.2 13), P_z 9, P_un]) (st' := [.ref (w.2.2 13)]) P_i81_0 rfl (show P_aw _ _ _ 1 [.ref (w.2.2 13), P_z 9, P_un] [.ref (w.2.2 13)] _ _ from ?_)
  refine P_aw_getR P_i81_1 (hw.2.1 13 (by decide)) (hw.s rfl) rfl rfl (show P_aw _ _ _ 4 [.ref (w.2.2 13), P_z 9, P_un] [.ref (w.2.2 6)] _ _ from ?_)
  refine P_aw_call P_i81_4 rfl rfl (fun _ => rfl) rfl rfl rfl rfl (y2 := 30) (as := [.ref (w.2.2 6)]) (r0 := []) (P_inv_v (hw.2.1 6 (by decide)) (hw.s rfl) rfl rfl) (Nat.le_of_ble_eq_true rfl) (by decide) rfl (Nat.le_of_ble_eq_true rfl) (show P_aw _ _ _ 0 [.ref (w.2.2 6)] [] _ _ from ?_)
  refine P_aw_op (L' := [.ref (w.2.2 6)]) (st' := [.ref (w.2.2 6)]) P_i30_0 rfl (show P_aw _ _ _ 1 [.ref (w.2.2 6)] [.ref (w.2.2 6)] _ _ from ?_)
  have hg1 := hA.2.1
  refine P_aw_getv P_i30_1 (hw.2.1 6 (by decide)) (hw.s rfl) rfl rfl (hA.1) (show P_aw _ _ _ 4 [.ref (w.2.2 6)] [P_z 1] _ _ from ?_)
  refine P_aw_end P_i30_4 rfl rfl (fun _ => rfl) rfl ?_
  show P_aw _ _ _ 7 [.ref (w.2.2 13), P_z 9, P_un] [P_z 1] _ _
  refine P_aw_op (L' := [.ref (w.2.2 13), P_z 9, P_z 1]) (st' := []) P_i81_7 rfl (show P_aw _ _ _ 8 [P_un, P_z 9, P_z 1] [] _ _ from ?_)
  refine P_aw_op (L' := [P_un, P_z 9, P_z 1]) (st' := [P_z 1]) P_i81_8 rfl (show P_aw _ _ _ 9 [P_un, P_z 9, P_z 1] [P_z 1] _ _ from ?_)
  refine P_aw_op (L' := [P_un, P_z 9, P_z 1]) (st' := [P_z 3, P_z 1]) P_i81_9 rfl (show P_aw _ _ _ 10 [P_un, P_z 9, P_z 1] [P_z 3, P_z 1] _ _ from ?_)
  refine P_aw_icf P_i81_10 ⟨by decide, by decide⟩ ⟨by decide, by decide⟩ (P_ci_gef (by omega)) (show P_aw _ _ _ 13 [P_un, P_z 9, P_z 1] [] _ _ from ?_)
  refine P_aw_gst P_i81_13 (show P_aw _ _ _ 16 [P_un, P_z 9, P_z 1] [.ref 1] _ _ from ?_)
  refine P_aw_op (L' := [P_un, P_z 9, P_z 1]) (st' := [P_z 9, .ref 1]) P_i81_16 rfl (show P_aw _ _ _ 17 [P_un, P_z 9, P_z 1] [P_z 9, .ref 1] _ _ from ?_)
  refine P_aw_op (L' := [P_un, P_z 9, P_z 1]) (st' := [P_z 1, P_z 9, .ref 1]) P_i81_17 rfl (show P_aw _ _ _ 18 [P_un, P_z 9, P_z 1] [P_z 1, P_z 9, .ref 1] _ _ from ?_)
  refine P_aw_op (L' := [P_un, P_z 9, P_z 1]) (st' := [P_z 10, .ref 1]) P_i81_18 P_o_iadd (show P_aw _ _ _ 19 [P_un, P_z 9, P_z 1] [P_z 10, .ref 1] _ _ from ?_)
  refine P_aw_call P_i81_19 rfl rfl (fun _ => rfl) rfl rfl rfl rfl (y2 := 178) (as := [.ref 1, P_z 10]) (r0 := []) (fun _ _ => rfl) (Nat.le_of_ble_eq_true rfl) (by decide) rfl (Nat.le_of_ble_eq_true rfl) (show P_aw _ _ _ 0 [.ref 1, P_z 10] [] _ _ from ?_)
  refine P_aw_op (L' := [.ref 1, P_z 10]) (st' := [P_z 10]) P_i178_0 rfl (show P_aw _ _ _ 1 [.ref 1, P_z 10] [P_z 10] _ _ from ?_)
  refine P_aw_izf P_i178_1 ⟨by decide, by decide⟩ (P_ci_ltf (by omega)) (show P_aw _ _ _ 4 [.ref 1, P_z 10] [] _ _ from ?_)
  refine P_aw_op (L' := [.ref 1, P_z 10]) (st' := [P_z 10]) P_i178_4 rfl (show P_aw _ _ _ 5 [.ref 1, P_z 10] [P_z 10] _ _ from ?_)
  refine P_aw_op (L' := [.ref 1, P_z 10]) (st' := [.ref 1, P_z 10]) P_i178_5 rfl (show P_aw _ _ _ 6 [.ref 1, P_z 10] [.ref 1, P_z 10] _ _ from ?_)
  refine P_aw_olen P_i178_6 (show P_aw _ _ _ 7 [.ref 1, P_z 10] [P_z 18, P_z 10] _ _ from ?_)
  refine P_aw_icf P_i178_7 ⟨by decide, by decide⟩ ⟨by decide, by decide⟩ (P_ci_gef (by omega)) (show P_aw _ _ _ 10 [.ref 1, P_z 10] [] _ _ from ?_)
  refine P_aw_op (L' := [.ref 1, P_z 10]) (st' := [.ref 1]) P_i178_10 rfl (show P_aw _ _ _ 11 [.ref 1, P_z 10] [.ref 1] _ _ from ?_)
  refine P_aw_op (L' := [.ref 1, P_z 10]) (st' := [P_z 10, .ref 1]) P_i178_11 rfl (show P_aw _ _ _ 12 [.ref 1, P_z 10] [P_z 10, .ref 1] _ _ from ?_)
  refine P_aw_oald P_i178_12 (by decide) (by decide) (by decide +kernel) (show P_aw _ _ _ 13 [.ref 1, P_z 10] [P_z 2] _ _ from ?_)
  refine P_aw_goto P_i178_13 (show P_aw _ _ _ 17 [.ref 1, P_z 10] [P_z 2] _ _ from ?_)
  refine P_aw_end P_i178_17 rfl rfl (fun _ => rfl) rfl ?_
  show P_aw _ _ _ 22 [P_un, P_z 9, P_z 1] [P_z 2] _ _
  refine P_aw_op (L' := [P_un, P_z 9, P_z 1]) (st' := [P_z 1, P_z 2]) P_i81_22 rfl (show P_aw _ _ _ 23 [P_un, P_z 9, P_z 1] [P_z 1, P_z 2] _ _ from ?_)
  refine P_aw_icf P_i81_23 ⟨by decide, by decide⟩ ⟨by decide, by decide⟩ (P_ci_eqf (by omega)) (show P_aw _ _ _ 26 [P_un, P_z 9, P_z 1] [] _ _ from ?_)
  refine P_aw_op (L' := [P_un, P_z 9, P_z 1]) (st' := [P_z 0]) P_i81_26 rfl (show P_aw _ _ _ 27 [P_un, P_z 9, P_z 1] [P_z 0] _ _ from ?_)
  refine P_aw_end P_i81_27 rfl rfl (fun _ => rfl) rfl ?_
  show P_aw _ _ _ 24 [.ref (w.2.2 13), P_zl x.1, P_un, P_z x.2, P_z 9, P_un, P_un] [P_z 0] _ _
  refine P_aw_izf P_i80_24 ⟨by decide, by decide⟩ (P_ci_nef (by omega)) (show P_aw _ _ _ 27 [.ref (w.2.2 13), P_zl x.1, P_un, P_z x.2, P_z 9, P_un, P_un] [] _ _ from ?_)
  refine P_aw_goto P_i80_27 (show P_aw _ _ _ 63 [.ref (w.2.2 13), P_zl x.1, P_un, P_z x.2, P_z 9, P_un, P_un] [] _ _ from ?_)
  refine P_aw_op (L' := [.ref (w.2.2 13), P_zl x.1, P_un, P_z x.2, P_z 12, P_un, P_un]) (st' := []) P_i80_63 (P_o_iincv (x := 9) rfl (by decide)) (show P_aw _ _ _ 66 [.ref (w.2.2 13), P_zl x.1, P_un, P_z x.2, P_z 12, P_un, P_un] [] _ _ from ?_)
  refine P_aw_goto P_i80_66 (show P_aw _ _ _ 9 [.ref (w.2.2 13), P_zl x.1, P_un, P_z x.2, P_z 12, P_un, P_un] [] _ _ from ?_)
  exact q

theorem s_bt1_12 {w : P_Lw} (hw : P_Cw w) {d : Nat} {Q : P_R → P_A → Prop} {σ : P_A} {tb : Int → Nat} {rw : Int → Int} {vr : Int → Int → Int} (hA : A_V w σ 1 tb rw vr) {sz : Int} {cL cS cR cV : Int → Int} (hC : A_C σ 1 sz cL cS cR cV) {nv : Int} (hN : σ 13 5 = nv) (hn01 : 0 ≤ nv ∧ nv ≤ 1) {x : Int × Int} (hx : -1 ≤ x.1 ∧ x.1 ≤ 3000) (q : P_aw w (d + 8) 80 9 [.ref (w.2.2 13), P_zl x.1, P_un, P_z x.2, P_z 15, P_un, P_un] [] σ Q) : P_aw w (d + 8) 80 9 [.ref (w.2.2 13), P_zl x.1, P_un, P_z x.2, P_z 12, P_un, P_un] [] σ Q := by
  have hsz := hC.2.1
  refine P_aw_op (L' := [.ref (w.2.2 13), P_zl x.1, P_un, P_z x.2, P_z 12, P_un, P_un]) (st' := [P_z 12]) P_i80_9 rfl (show P_aw _ _ _ 11 [.ref (w.2.2 13), P_zl x.1, P_un, P_z x.2, P_z 12, P_un, P_un] [P_z 12] _ _ from ?_)
  refine P_aw_gst P_i80_11 (show P_aw _ _ _ 14 [.ref (w.2.2 13), P_zl x.1, P_un, P_z x.2, P_z 12, P_un, P_un] [.ref 1, P_z 12] _ _ from ?_)
  refine P_aw_olen P_i80_14 (show P_aw _ _ _ 15 [.ref (w.2.2 13), P_zl x.1, P_un, P_z x.2, P_z 12, P_un, P_un] [P_z 18, P_z 12] _ _ from ?_)
  refine P_aw_icf P_i80_15 ⟨by decide, by decide⟩ ⟨by decide, by decide⟩ (P_ci_gef (by omega)) (show P_aw _ _ _ 18 [.ref (w.2.2 13), P_zl x.1, P_un, P_z x.2, P_z 12, P_un, P_un] [] _ _ from ?_)
  refine P_aw_op (L' := [.ref (w.2.2 13), P_zl x.1, P_un, P_z x.2, P_z 12, P_un, P_un]) (st' := [.ref (w.2.2 13)]) P_i80_18 rfl (show P_aw _ _ _ 19 [.ref (w.2.2 13), P_zl x.1, P_un, P_z x.2, P_z 12, P_un, P_un] [.ref (w.2.2 13)] _ _ from ?_)
  refine P_aw_op (L' := [.ref (w.2.2 13), P_zl x.1, P_un, P_z x.2, P_z 12, P_un, P_un]) (st' := [P_z 12, .ref (w.2.2 13)]) P_i80_19 rfl (show P_aw _ _ _ 21 [.ref (w.2.2 13), P_zl x.1, P_un, P_z x.2, P_z 12, P_un, P_un] [P_z 12, .ref (w.2.2 13)] _ _ from ?_)
  refine P_aw_call P_i80_21 rfl rfl (fun _ => rfl) rfl rfl rfl rfl (y2 := 81) (as := [.ref (w.2.2 13), P_z 12]) (r0 := []) (P_inv_v (hw.2.1 13 (by decide)) (hw.s rfl) rfl rfl) (Nat.le_of_ble_eq_true rfl) (by decide) rfl (Nat.le_of_ble_eq_true rfl) (show P_aw _ _ _ 0 [.ref (w.2.2 13), P_z 12, P_un] [] _ _ from ?_)
  refine P_aw_op (L' := [.ref (w.2.2 13), P_z 12, P_un]) (st' := [.ref (w.2.2 13)]) P_i81_0 rfl (show P_aw _ _ _ 1 [.ref (w.2.2 13), P_z 12, P_un] [.ref (w.2.2 13)] _ _ from ?_)
  refine P_aw_getR P_i81_1 (hw.2.1 13 (by decide)) (hw.s rfl) rfl rfl (show P_aw _ _ _ 4 [.ref (w.2.2 13), P_z 12, P_un] [.ref (w.2.2 6)] _ _ from ?_)
  refine P_aw_call P_i81_4 rfl rfl (fun _ => rfl) rfl rfl rfl rfl (y2 := 30) (as := [.ref (w.2.2 6)]) (r0 := []) (P_inv_v (hw.2.1 6 (by decide)) (hw.s rfl) rfl rfl) (Nat.le_of_ble_eq_true rfl) (by decide) rfl (Nat.le_of_ble_eq_true rfl) (show P_aw _ _ _ 0 [.ref (w.2.2 6)] [] _ _ from ?_)
  refine P_aw_op (L' := [.ref (w.2.2 6)]) (st' := [.ref (w.2.2 6)]) P_i30_0 rfl (show P_aw _ _ _ 1 [.ref (w.2.2 6)] [.ref (w.2.2 6)] _ _ from ?_)
  have hg1 := hA.2.1
  refine P_aw_getv P_i30_1 (hw.2.1 6 (by decide)) (hw.s rfl) rfl rfl (hA.1) (show P_aw _ _ _ 4 [.ref (w.2.2 6)] [P_z 1] _ _ from ?_)
  refine P_aw_end P_i30_4 rfl rfl (fun _ => rfl) rfl ?_
  show P_aw _ _ _ 7 [.ref (w.2.2 13), P_z 12, P_un] [P_z 1] _ _
  refine P_aw_op (L' := [.ref (w.2.2 13), P_z 12, P_z 1]) (st' := []) P_i81_7 rfl (show P_aw _ _ _ 8 [P_un, P_z 12, P_z 1] [] _ _ from ?_)
  refine P_aw_op (L' := [P_un, P_z 12, P_z 1]) (st' := [P_z 1]) P_i81_8 rfl (show P_aw _ _ _ 9 [P_un, P_z 12, P_z 1] [P_z 1] _ _ from ?_)
  refine P_aw_op (L' := [P_un, P_z 12, P_z 1]) (st' := [P_z 3, P_z 1]) P_i81_9 rfl (show P_aw _ _ _ 10 [P_un, P_z 12, P_z 1] [P_z 3, P_z 1] _ _ from ?_)
  refine P_aw_icf P_i81_10 ⟨by decide, by decide⟩ ⟨by decide, by decide⟩ (P_ci_gef (by omega)) (show P_aw _ _ _ 13 [P_un, P_z 12, P_z 1] [] _ _ from ?_)
  refine P_aw_gst P_i81_13 (show P_aw _ _ _ 16 [P_un, P_z 12, P_z 1] [.ref 1] _ _ from ?_)
  refine P_aw_op (L' := [P_un, P_z 12, P_z 1]) (st' := [P_z 12, .ref 1]) P_i81_16 rfl (show P_aw _ _ _ 17 [P_un, P_z 12, P_z 1] [P_z 12, .ref 1] _ _ from ?_)
  refine P_aw_op (L' := [P_un, P_z 12, P_z 1]) (st' := [P_z 1, P_z 12, .ref 1]) P_i81_17 rfl (show P_aw _ _ _ 18 [P_un, P_z 12, P_z 1] [P_z 1, P_z 12, .ref 1] _ _ from ?_)
  refine P_aw_op (L' := [P_un, P_z 12, P_z 1]) (st' := [P_z 13, .ref 1]) P_i81_18 P_o_iadd (show P_aw _ _ _ 19 [P_un, P_z 12, P_z 1] [P_z 13, .ref 1] _ _ from ?_)
  refine P_aw_call P_i81_19 rfl rfl (fun _ => rfl) rfl rfl rfl rfl (y2 := 178) (as := [.ref 1, P_z 13]) (r0 := []) (fun _ _ => rfl) (Nat.le_of_ble_eq_true rfl) (by decide) rfl (Nat.le_of_ble_eq_true rfl) (show P_aw _ _ _ 0 [.ref 1, P_z 13] [] _ _ from ?_)
  refine P_aw_op (L' := [.ref 1, P_z 13]) (st' := [P_z 13]) P_i178_0 rfl (show P_aw _ _ _ 1 [.ref 1, P_z 13] [P_z 13] _ _ from ?_)
  refine P_aw_izf P_i178_1 ⟨by decide, by decide⟩ (P_ci_ltf (by omega)) (show P_aw _ _ _ 4 [.ref 1, P_z 13] [] _ _ from ?_)
  refine P_aw_op (L' := [.ref 1, P_z 13]) (st' := [P_z 13]) P_i178_4 rfl (show P_aw _ _ _ 5 [.ref 1, P_z 13] [P_z 13] _ _ from ?_)
  refine P_aw_op (L' := [.ref 1, P_z 13]) (st' := [.ref 1, P_z 13]) P_i178_5 rfl (show P_aw _ _ _ 6 [.ref 1, P_z 13] [.ref 1, P_z 13] _ _ from ?_)
  refine P_aw_olen P_i178_6 (show P_aw _ _ _ 7 [.ref 1, P_z 13] [P_z 18, P_z 13] _ _ from ?_)
  refine P_aw_icf P_i178_7 ⟨by decide, by decide⟩ ⟨by decide, by decide⟩ (P_ci_gef (by omega)) (show P_aw _ _ _ 10 [.ref 1, P_z 13] [] _ _ from ?_)
  refine P_aw_op (L' := [.ref 1, P_z 13]) (st' := [.ref 1]) P_i178_10 rfl (show P_aw _ _ _ 11 [.ref 1, P_z 13] [.ref 1] _ _ from ?_)
  refine P_aw_op (L' := [.ref 1, P_z 13]) (st' := [P_z 13, .ref 1]) P_i178_11 rfl (show P_aw _ _ _ 12 [.ref 1, P_z 13] [P_z 13, .ref 1] _ _ from ?_)
  refine P_aw_oald P_i178_12 (by decide) (by decide) (by decide +kernel) (show P_aw _ _ _ 13 [.ref 1, P_z 13] [P_z 0] _ _ from ?_)
  refine P_aw_goto P_i178_13 (show P_aw _ _ _ 17 [.ref 1, P_z 13] [P_z 0] _ _ from ?_)
  refine P_aw_end P_i178_17 rfl rfl (fun _ => rfl) rfl ?_
  show P_aw _ _ _ 22 [P_un, P_z 12, P_z 1] [P_z 0] _ _
  refine P_aw_op (L' := [P_un, P_z 12, P_z 1]) (st' := [P_z 1, P_z 0]) P_i81_22 rfl (show P_aw _ _ _ 23 [P_un, P_z 12, P_z 1] [P_z 1, P_z 0] _ _ from ?_)
  refine P_aw_icf P_i81_23 ⟨by decide, by decide⟩ ⟨by decide, by decide⟩ (P_ci_eqf (by omega)) (show P_aw _ _ _ 26 [P_un, P_z 12, P_z 1] [] _ _ from ?_)
  refine P_aw_op (L' := [P_un, P_z 12, P_z 1]) (st' := [P_z 0]) P_i81_26 rfl (show P_aw _ _ _ 27 [P_un, P_z 12, P_z 1] [P_z 0] _ _ from ?_)
  refine P_aw_end P_i81_27 rfl rfl (fun _ => rfl) rfl ?_
  show P_aw _ _ _ 24 [.ref (w.2.2 13), P_zl x.1, P_un, P_z x.2, P_z 12, P_un, P_un] [P_z 0] _ _
  refine P_aw_izf P_i80_24 ⟨by decide, by decide⟩ (P_ci_nef (by omega)) (show P_aw _ _ _ 27 [.ref (w.2.2 13), P_zl x.1, P_un, P_z x.2, P_z 12, P_un, P_un] [] _ _ from ?_)
  refine P_aw_goto P_i80_27 (show P_aw _ _ _ 63 [.ref (w.2.2 13), P_zl x.1, P_un, P_z x.2, P_z 12, P_un, P_un] [] _ _ from ?_)
  refine P_aw_op (L' := [.ref (w.2.2 13), P_zl x.1, P_un, P_z x.2, P_z 15, P_un, P_un]) (st' := []) P_i80_63 (P_o_iincv (x := 12) rfl (by decide)) (show P_aw _ _ _ 66 [.ref (w.2.2 13), P_zl x.1, P_un, P_z x.2, P_z 15, P_un, P_un] [] _ _ from ?_)
  refine P_aw_goto P_i80_66 (show P_aw _ _ _ 9 [.ref (w.2.2 13), P_zl x.1, P_un, P_z x.2, P_z 15, P_un, P_un] [] _ _ from ?_)
  exact q

theorem s_bt1_15 {w : P_Lw} (hw : P_Cw w) {d : Nat} {Q : P_R → P_A → Prop} {σ : P_A} {tb : Int → Nat} {rw : Int → Int} {vr : Int → Int → Int} (hA : A_V w σ 1 tb rw vr) {sz : Int} {cL cS cR cV : Int → Int} (hC : A_C σ 1 sz cL cS cR cV) {nv : Int} (hN : σ 13 5 = nv) (hn01 : 0 ≤ nv ∧ nv ≤ 1) {x : Int × Int} (hx : -1 ≤ x.1 ∧ x.1 ≤ 3000) (q : P_aw w (d + 8) 80 9 [.ref (w.2.2 13), P_zl x.1, P_un, P_z x.2, P_z 18, P_un, P_un] [] σ Q) : P_aw w (d + 8) 80 9 [.ref (w.2.2 13), P_zl x.1, P_un, P_z x.2, P_z 15, P_un, P_un] [] σ Q := by
  have hsz := hC.2.1
  refine P_aw_op (L' := [.ref (w.2.2 13), P_zl x.1, P_un, P_z x.2, P_z 15, P_un, P_un]) (st' := [P_z 15]) P_i80_9 rfl (show P_aw _ _ _ 11 [.ref (w.2.2 13), P_zl x.1, P_un, P_z x.2, P_z 15, P_un, P_un] [P_z 15] _ _ from ?_)
  refine P_aw_gst P_i80_11 (show P_aw _ _ _ 14 [.ref (w.2.2 13), P_zl x.1, P_un, P_z x.2, P_z 15, P_un, P_un] [.ref 1, P_z 15] _ _ from ?_)
  refine P_aw_olen P_i80_14 (show P_aw _ _ _ 15 [.ref (w.2.2 13), P_zl x.1, P_un, P_z x.2, P_z 15, P_un, P_un] [P_z 18, P_z 15] _ _ from ?_)
  refine P_aw_icf P_i80_15 ⟨by decide, by decide⟩ ⟨by decide, by decide⟩ (P_ci_gef (by omega)) (show P_aw _ _ _ 18 [.ref (w.2.2 13), P_zl x.1, P_un, P_z x.2, P_z 15, P_un, P_un] [] _ _ from ?_)
  refine P_aw_op (L' := [.ref (w.2.2 13), P_zl x.1, P_un, P_z x.2, P_z 15, P_un, P_un]) (st' := [.ref (w.2.2 13)]) P_i80_18 rfl (show P_aw _ _ _ 19 [.ref (w.2.2 13), P_zl x.1, P_un, P_z x.2, P_z 15, P_un, P_un] [.ref (w.2.2 13)] _ _ from ?_)
  refine P_aw_op (L' := [.ref (w.2.2 13), P_zl x.1, P_un, P_z x.2, P_z 15, P_un, P_un]) (st' := [P_z 15, .ref (w.2.2 13)]) P_i80_19 rfl (show P_aw _ _ _ 21 [.ref (w.2.2 13), P_zl x.1, P_un, P_z x.2, P_z 15, P_un, P_un] [P_z 15, .ref (w.2.2 13)] _ _ from ?_)
  refine P_aw_call P_i80_21 rfl rfl (fun _ => rfl) rfl rfl rfl rfl (y2 := 81) (as := [.ref (w.2.2 13), P_z 15]) (r0 := []) (P_inv_v (hw.2.1 13 (by decide)) (hw.s rfl) rfl rfl) (Nat.le_of_ble_eq_true rfl) (by decide) rfl (Nat.le_of_ble_eq_true rfl) (show P_aw _ _ _ 0 [.ref (w.2.2 13), P_z 15, P_un] [] _ _ from ?_)
  refine P_aw_op (L' := [.ref (w.2.2 13), P_z 15, P_un]) (st' := [.ref (w.2.2 13)]) P_i81_0 rfl (show P_aw _ _ _ 1 [.ref (w.2.2 13), P_z 15, P_un] [.ref (w.2.2 13)] _ _ from ?_)
  refine P_aw_getR P_i81_1 (hw.2.1 13 (by decide)) (hw.s rfl) rfl rfl (show P_aw _ _ _ 4 [.ref (w.2.2 13), P_z 15, P_un] [.ref (w.2.2 6)] _ _ from ?_)
  refine P_aw_call P_i81_4 rfl rfl (fun _ => rfl) rfl rfl rfl rfl (y2 := 30) (as := [.ref (w.2.2 6)]) (r0 := []) (P_inv_v (hw.2.1 6 (by decide)) (hw.s rfl) rfl rfl) (Nat.le_of_ble_eq_true rfl) (by decide) rfl (Nat.le_of_ble_eq_true rfl) (show P_aw _ _ _ 0 [.ref (w.2.2 6)] [] _ _ from ?_)
  refine P_aw_op (L' := [.ref (w.2.2 6)]) (st' := [.ref (w.2.2 6)]) P_i30_0 rfl (show P_aw _ _ _ 1 [.ref (w.2.2 6)] [.ref (w.2.2 6)] _ _ from ?_)
  have hg1 := hA.2.1
  refine P_aw_getv P_i30_1 (hw.2.1 6 (by decide)) (hw.s rfl) rfl rfl (hA.1) (show P_aw _ _ _ 4 [.ref (w.2.2 6)] [P_z 1] _ _ from ?_)
  refine P_aw_end P_i30_4 rfl rfl (fun _ => rfl) rfl ?_
  show P_aw _ _ _ 7 [.ref (w.2.2 13), P_z 15, P_un] [P_z 1] _ _
  refine P_aw_op (L' := [.ref (w.2.2 13), P_z 15, P_z 1]) (st' := []) P_i81_7 rfl (show P_aw _ _ _ 8 [P_un, P_z 15, P_z 1] [] _ _ from ?_)
  refine P_aw_op (L' := [P_un, P_z 15, P_z 1]) (st' := [P_z 1]) P_i81_8 rfl (show P_aw _ _ _ 9 [P_un, P_z 15, P_z 1] [P_z 1] _ _ from ?_)
  refine P_aw_op (L' := [P_un, P_z 15, P_z 1]) (st' := [P_z 3, P_z 1]) P_i81_9 rfl (show P_aw _ _ _ 10 [P_un, P_z 15, P_z 1] [P_z 3, P_z 1] _ _ from ?_)
  refine P_aw_icf P_i81_10 ⟨by decide, by decide⟩ ⟨by decide, by decide⟩ (P_ci_gef (by omega)) (show P_aw _ _ _ 13 [P_un, P_z 15, P_z 1] [] _ _ from ?_)
  refine P_aw_gst P_i81_13 (show P_aw _ _ _ 16 [P_un, P_z 15, P_z 1] [.ref 1] _ _ from ?_)
  refine P_aw_op (L' := [P_un, P_z 15, P_z 1]) (st' := [P_z 15, .ref 1]) P_i81_16 rfl (show P_aw _ _ _ 17 [P_un, P_z 15, P_z 1] [P_z 15, .ref 1] _ _ from ?_)
  refine P_aw_op (L' := [P_un, P_z 15, P_z 1]) (st' := [P_z 1, P_z 15, .ref 1]) P_i81_17 rfl (show P_aw _ _ _ 18 [P_un, P_z 15, P_z 1] [P_z 1, P_z 15, .ref 1] _ _ from ?_)
  refine P_aw_op (L' := [P_un, P_z 15, P_z 1]) (st' := [P_z 16, .ref 1]) P_i81_18 P_o_iadd (show P_aw _ _ _ 19 [P_un, P_z 15, P_z 1] [P_z 16, .ref 1] _ _ from ?_)
  refine P_aw_call P_i81_19 rfl rfl (fun _ => rfl) rfl rfl rfl rfl (y2 := 178) (as := [.ref 1, P_z 16]) (r0 := []) (fun _ _ => rfl) (Nat.le_of_ble_eq_true rfl) (by decide) rfl (Nat.le_of_ble_eq_true rfl) (show P_aw _ _ _ 0 [.ref 1, P_z 16] [] _ _ from ?_)
  refine P_aw_op (L' := [.ref 1, P_z 16]) (st' := [P_z 16]) P_i178_0 rfl (show P_aw _ _ _ 1 [.ref 1, P_z 16] [P_z 16] _ _ from ?_)
  refine P_aw_izf P_i178_1 ⟨by decide, by decide⟩ (P_ci_ltf (by omega)) (show P_aw _ _ _ 4 [.ref 1, P_z 16] [] _ _ from ?_)
  refine P_aw_op (L' := [.ref 1, P_z 16]) (st' := [P_z 16]) P_i178_4 rfl (show P_aw _ _ _ 5 [.ref 1, P_z 16] [P_z 16] _ _ from ?_)
  refine P_aw_op (L' := [.ref 1, P_z 16]) (st' := [.ref 1, P_z 16]) P_i178_5 rfl (show P_aw _ _ _ 6 [.ref 1, P_z 16] [.ref 1, P_z 16] _ _ from ?_)
  refine P_aw_olen P_i178_6 (show P_aw _ _ _ 7 [.ref 1, P_z 16] [P_z 18, P_z 16] _ _ from ?_)
  refine P_aw_icf P_i178_7 ⟨by decide, by decide⟩ ⟨by decide, by decide⟩ (P_ci_gef (by omega)) (show P_aw _ _ _ 10 [.ref 1, P_z 16] [] _ _ from ?_)
  refine P_aw_op (L' := [.ref 1, P_z 16]) (st' := [.ref 1]) P_i178_10 rfl (show P_aw _ _ _ 11 [.ref 1, P_z 16] [.ref 1] _ _ from ?_)
  refine P_aw_op (L' := [.ref 1, P_z 16]) (st' := [P_z 16, .ref 1]) P_i178_11 rfl (show P_aw _ _ _ 12 [.ref 1, P_z 16] [P_z 16, .ref 1] _ _ from ?_)
  refine P_aw_oald P_i178_12 (by decide) (by decide) (by decide +kernel) (show P_aw _ _ _ 13 [.ref 1, P_z 16] [P_z 1] _ _ from ?_)
  refine P_aw_goto P_i178_13 (show P_aw _ _ _ 17 [.ref 1, P_z 16] [P_z 1] _ _ from ?_)
  refine P_aw_end P_i178_17 rfl rfl (fun _ => rfl) rfl ?_
  show P_aw _ _ _ 22 [P_un, P_z 15, P_z 1] [P_z 1] _ _
  refine P_aw_op (L' := [P_un, P_z 15, P_z 1]) (st' := [P_z 1, P_z 1]) P_i81_22 rfl (show P_aw _ _ _ 23 [P_un, P_z 15, P_z 1] [P_z 1, P_z 1] _ _ from ?_)
  refine P_aw_ict P_i81_23 ⟨by decide, by decide⟩ ⟨by decide, by decide⟩ (P_ci_eqt (by omega)) (show P_aw _ _ _ 28 [P_un, P_z 15, P_z 1] [] _ _ from ?_)
  refine P_aw_op (L' := [P_un, P_z 15, P_z 2]) (st' := []) P_i81_28 (P_o_iincv (x := 1) rfl (by decide)) (show P_aw _ _ _ 31 [P_un, P_z 15, P_z 2] [] _ _ from ?_)
  refine P_aw_goto P_i81_31 (show P_aw _ _ _ 8 [P_un, P_z 15, P_z 2] [] _ _ from ?_)
  refine P_aw_op (L' := [P_un, P_z 15, P_z 2]) (st' := [P_z 2]) P_i81_8 rfl (show P_aw _ _ _ 9 [P_un, P_z 15, P_z 2] [P_z 2] _ _ from ?_)
  refine P_aw_op (L' := [P_un, P_z 15, P_z 2]) (st' := [P_z 3, P_z 2]) P_i81_9 rfl (show P_aw _ _ _ 10 [P_un, P_z 15, P_z 2] [P_z 3, P_z 2] _ _ from ?_)
  refine P_aw_icf P_i81_10 ⟨by decide, by decide⟩ ⟨by decide, by decide⟩ (P_ci_gef (by omega)) (show P_aw _ _ _ 13 [P_un, P_z 15, P_z 2] [] _ _ from ?_)
  refine P_aw_gst P_i81_13 (show P_aw _ _ _ 16 [P_un, P_z 15, P_z 2] [.ref 1] _ _ from ?_)
  refine P_aw_op (L' := [P_un, P_z 15, P_z 2]) (st' := [P_z 15, .ref 1]) P_i81_16 rfl (show P_aw _ _ _ 17 [P_un, P_z 15, P_z 2] [P_z 15, .ref 1] _ _ from ?_)
  refine P_aw_op (L' := [P_un, P_z 15, P_z 2]) (st' := [P_z 2, P_z 15, .ref 1]) P_i81_17 rfl (show P_aw _ _ _ 18 [P_un, P_z 15, P_z 2] [P_z 2, P_z 15, .ref 1] _ _ from ?_)
  refine P_aw_op (L' := [P_un, P_z 15, P_z 2]) (st' := [P_z 17, .ref 1]) P_i81_18 P_o_iadd (show P_aw _ _ _ 19 [P_un, P_z 15, P_z 2] [P_z 17, .ref 1] _ _ from ?_)
  refine P_aw_call P_i81_19 rfl rfl (fun _ => rfl) rfl rfl rfl rfl (y2 := 178) (as := [.ref 1, P_z 17]) (r0 := []) (fun _ _ => rfl) (Nat.le_of_ble_eq_true rfl) (by decide) rfl (Nat.le_of_ble_eq_true rfl) (show P_aw _ _ _ 0 [.ref 1, P_z 17] [] _ _ from ?_)
  refine P_aw_op (L' := [.ref 1, P_z 17]) (st' := [P_z 17]) P_i178_0 rfl (show P_aw _ _ _ 1 [.ref 1, P_z 17] [P_z 17] _ _ from ?_)
  refine P_aw_izf P_i178_1 ⟨by decide, by decide⟩ (P_ci_ltf (by omega)) (show P_aw _ _ _ 4 [.ref 1, P_z 17] [] _ _ from ?_)
  refine P_aw_op (L' := [.ref 1, P_z 17]) (st' := [P_z 17]) P_i178_4 rfl (show P_aw _ _ _ 5 [.ref 1, P_z 17] [P_z 17] _ _ from ?_)
  refine P_aw_op (L' := [.ref 1, P_z 17]) (st' := [.ref 1, P_z 17]) P_i178_5 rfl (show P_aw _ _ _ 6 [.ref 1, P_z 17] [.ref 1, P_z 17] _ _ from ?_)
  refine P_aw_olen P_i178_6 (show P_aw _ _ _ 7 [.ref 1, P_z 17] [P_z 18, P_z 17] _ _ from ?_)
  refine P_aw_icf P_i178_7 ⟨by decide, by decide⟩ ⟨by decide, by decide⟩ (P_ci_gef (by omega)) (show P_aw _ _ _ 10 [.ref 1, P_z 17] [] _ _ from ?_)
  refine P_aw_op (L' := [.ref 1, P_z 17]) (st' := [.ref 1]) P_i178_10 rfl (show P_aw _ _ _ 11 [.ref 1, P_z 17] [.ref 1] _ _ from ?_)
  refine P_aw_op (L' := [.ref 1, P_z 17]) (st' := [P_z 17, .ref 1]) P_i178_11 rfl (show P_aw _ _ _ 12 [.ref 1, P_z 17] [P_z 17, .ref 1] _ _ from ?_)
  refine P_aw_oald P_i178_12 (by decide) (by decide) (by decide +kernel) (show P_aw _ _ _ 13 [.ref 1, P_z 17] [P_z 0] _ _ from ?_)
  refine P_aw_goto P_i178_13 (show P_aw _ _ _ 17 [.ref 1, P_z 17] [P_z 0] _ _ from ?_)
  refine P_aw_end P_i178_17 rfl rfl (fun _ => rfl) rfl ?_
  show P_aw _ _ _ 22 [P_un, P_z 15, P_z 2] [P_z 0] _ _
  refine P_aw_op (L' := [P_un, P_z 15, P_z 2]) (st' := [P_z 2, P_z 0]) P_i81_22 rfl (show P_aw _ _ _ 23 [P_un, P_z 15, P_z 2] [P_z 2, P_z 0] _ _ from ?_)
  refine P_aw_icf P_i81_23 ⟨by decide, by decide⟩ ⟨by decide, by decide⟩ (P_ci_eqf (by omega)) (show P_aw _ _ _ 26 [P_un, P_z 15, P_z 2] [] _ _ from ?_)
  refine P_aw_op (L' := [P_un, P_z 15, P_z 2]) (st' := [P_z 0]) P_i81_26 rfl (show P_aw _ _ _ 27 [P_un, P_z 15, P_z 2] [P_z 0] _ _ from ?_)
  refine P_aw_end P_i81_27 rfl rfl (fun _ => rfl) rfl ?_
  show P_aw _ _ _ 24 [.ref (w.2.2 13), P_zl x.1, P_un, P_z x.2, P_z 15, P_un, P_un] [P_z 0] _ _
  refine P_aw_izf P_i80_24 ⟨by decide, by decide⟩ (P_ci_nef (by omega)) (show P_aw _ _ _ 27 [.ref (w.2.2 13), P_zl x.1, P_un, P_z x.2, P_z 15, P_un, P_un] [] _ _ from ?_)
  refine P_aw_goto P_i80_27 (show P_aw _ _ _ 63 [.ref (w.2.2 13), P_zl x.1, P_un, P_z x.2, P_z 15, P_un, P_un] [] _ _ from ?_)
  refine P_aw_op (L' := [.ref (w.2.2 13), P_zl x.1, P_un, P_z x.2, P_z 18, P_un, P_un]) (st' := []) P_i80_63 (P_o_iincv (x := 15) rfl (by decide)) (show P_aw _ _ _ 66 [.ref (w.2.2 13), P_zl x.1, P_un, P_z x.2, P_z 18, P_un, P_un] [] _ _ from ?_)
  refine P_aw_goto P_i80_66 (show P_aw _ _ _ 9 [.ref (w.2.2 13), P_zl x.1, P_un, P_z x.2, P_z 18, P_un, P_un] [] _ _ from ?_)
  exact q

theorem s_be1 {w : P_Lw} (hw : P_Cw w) {d : Nat} {Q : P_R → P_A → Prop} {σ : P_A} {tb : Int → Nat} {rw : Int → Int} {vr : Int → Int → Int} (hA : A_V w σ 1 tb rw vr) {sz : Int} {cL cS cR cV : Int → Int} (hC : A_C σ 1 sz cL cS cR cV) {nv : Int} (hN : σ 13 5 = nv) (hn01 : 0 ≤ nv ∧ nv ≤ 1) {x : Int × Int} (hx : -1 ≤ x.1 ∧ x.1 ≤ 3000) (hs : A_isO 1 x.2) (q : Q (.inl (some (P_zl x.1))) (A_bi σ x.2 sz cL cR)) : P_aw w (d + 8) 80 9 [.ref (w.2.2 13), P_zl x.1, P_un, P_z x.2, P_z 18, P_un, P_un] [] σ Q := by
  have hsz := hC.2.1
  refine P_aw_op (L' := [.ref (w.2.2 13), P_zl x.1, P_un, P_z x.2, P_z 18, P_un, P_un]) (st' := [P_z 18]) P_i80_9 rfl (show P_aw _ _ _ 11 [.ref (w.2.2 13), P_zl x.1, P_un, P_z x.2, P_z 18, P_un, P_un] [P_z 18] _ _ from ?_)
  refine P_aw_gst P_i80_11 (show P_aw _ _ _ 14 [.ref (w.2.2 13), P_zl x.1, P_un, P_z x.2, P_z 18, P_un, P_un] [.ref 1, P_z 18] _ _ from ?_)
  refine P_aw_olen P_i80_14 (show P_aw _ _ _ 15 [.ref (w.2.2 13), P_zl x.1, P_un, P_z x.2, P_z 18, P_un, P_un] [P_z 18, P_z 18] _ _ from ?_)
  refine P_aw_ict P_i80_15 ⟨by decide, by decide⟩ ⟨by decide, by decide⟩ (P_ci_get (by omega)) (show P_aw _ _ _ 69 [.ref (w.2.2 13), P_zl x.1, P_un, P_z x.2, P_z 18, P_un, P_un] [] _ _ from ?_)
  refine P_aw_op (L' := [.ref (w.2.2 13), P_zl x.1, P_un, P_z x.2, P_z 18, P_un, P_un]) (st' := [.ref (w.2.2 13)]) P_i80_69 rfl (show P_aw _ _ _ 70 [.ref (w.2.2 13), P_zl x.1, P_un, P_z x.2, P_z 18, P_un, P_un] [.ref (w.2.2 13)] _ _ from ?_)
  refine P_aw_op (L' := [.ref (w.2.2 13), P_zl x.1, P_un, P_z x.2, P_z 18, P_un, P_un]) (st' := [P_z x.2, .ref (w.2.2 13)]) P_i80_70 rfl (show P_aw _ _ _ 71 [.ref (w.2.2 13), P_zl x.1, P_un, P_z x.2, P_z 18, P_un, P_un] [P_z x.2, .ref (w.2.2 13)] _ _ from ?_)
  refine P_aw_call P_i80_71 rfl rfl (fun _ => rfl) rfl rfl rfl rfl (y2 := 82) (as := [.ref (w.2.2 13), P_z x.2]) (r0 := []) (P_inv_v (hw.2.1 13 (by decide)) (hw.s rfl) rfl rfl) (Nat.le_of_ble_eq_true rfl) (by decide) rfl (Nat.le_of_ble_eq_true rfl) (s_bi hw (by omega) hC hs ?_)
  show P_aw _ _ _ 74 [.ref (w.2.2 13), P_zl x.1, P_un, P_z x.2, P_z 18, P_un, P_un] [] _ _
  refine P_aw_op (L' := [.ref (w.2.2 13), P_zl x.1, P_un, P_z x.2, P_z 18, P_un, P_un]) (st' := [P_zl x.1]) P_i80_74 rfl (show P_aw _ _ _ 75 [.ref (w.2.2 13), P_zl x.1, P_un, P_z x.2, P_z 18, P_un, P_un] [P_zl x.1] _ _ from ?_)
  refine P_aw_end P_i80_75 rfl rfl (fun _ => rfl) rfl ?_
  exact q

theorem s_bt2_0 {w : P_Lw} (hw : P_Cw w) {d : Nat} {Q : P_R → P_A → Prop} {σ : P_A} {tb : Int → Nat} {rw : Int → Int} {vr : Int → Int → Int} (hA : A_V w σ 2 tb rw vr) {sz : Int} {cL cS cR cV : Int → Int} (hC : A_C σ 2 sz cL cS cR cV) {nv : Int} (hN : σ 13 5 = nv) (hn01 : 0 ≤ nv ∧ nv ≤ 1) {x : Int × Int} (hx : -1 ≤ x.1 ∧ x.1 ≤ 3000) (hs : A_isO 2 0) (q : P_aw w (d + 8) 80 9 [.ref (w.2.2 13), P_zl (A_bt (A_cst rw vr nv 2 sz cL cS cR) 0 x).1, P_un, P_z (A_bt (A_cst rw vr nv 2 sz cL cS cR) 0 x).2, P_z 3, P_un, P_un] [] (A_bi σ 0 sz cL cR) Q) : P_aw w (d + 8) 80 9 [.ref (w.2.2 13), P_zl x.1, P_un, P_z x.2, P_z 0, P_un, P_un] [] σ Q := by
  have hsz := hC.2.1
  refine P_aw_op (L' := [.ref (w.2.2 13), P_zl x.1, P_un, P_z x.2, P_z 0, P_un, P_un]) (st' := [P_z 0]) P_i80_9 rfl (show P_aw _ _ _ 11 [.ref (w.2.2 13), P_zl x.1, P_un, P_z x.2, P_z 0, P_un, P_un] [P_z 0] _ _ from ?_)
  refine P_aw_gst P_i80_11 (show P_aw _ _ _ 14 [.ref (w.2.2 13), P_zl x.1, P_un, P_z x.2, P_z 0, P_un, P_un] [.ref 1, P_z 0] _ _ from ?_)
  refine P_aw_olen P_i80_14 (show P_aw _ _ _ 15 [.ref (w.2.2 13), P_zl x.1, P_un, P_z x.2, P_z 0, P_un, P_un] [P_z 18, P_z 0] _ _ from ?_)
  refine P_aw_icf P_i80_15 ⟨by decide, by decide⟩ ⟨by decide, by decide⟩ (P_ci_gef (by omega)) (show P_aw _ _ _ 18 [.ref (w.2.2 13), P_zl x.1, P_un, P_z x.2, P_z 0, P_un, P_un] [] _ _ from ?_)
  refine P_aw_op (L' := [.ref (w.2.2 13), P_zl x.1, P_un, P_z x.2, P_z 0, P_un, P_un]) (st' := [.ref (w.2.2 13)]) P_i80_18 rfl (show P_aw _ _ _ 19 [.ref (w.2.2 13), P_zl x.1, P_un, P_z x.2, P_z 0, P_un, P_un] [.ref (w.2.2 13)] _ _ from ?_)
  refine P_aw_op (L' := [.ref (w.2.2 13), P_zl x.1, P_un, P_z x.2, P_z 0, P_un, P_un]) (st' := [P_z 0, .ref (w.2.2 13)]) P_i80_19 rfl (show P_aw _ _ _ 21 [.ref (w.2.2 13), P_zl x.1, P_un, P_z x.2, P_z 0, P_un, P_un] [P_z 0, .ref (w.2.2 13)] _ _ from ?_)
  refine P_aw_call P_i80_21 rfl rfl (fun _ => rfl) rfl rfl rfl rfl (y2 := 81) (as := [.ref (w.2.2 13), P_z 0]) (r0 := []) (P_inv_v (hw.2.1 13 (by decide)) (hw.s rfl) rfl rfl) (Nat.le_of_ble_eq_true rfl) (by decide) rfl (Nat.le_of_ble_eq_true rfl) (show P_aw _ _ _ 0 [.ref (w.2.2 13), P_z 0, P_un] [] _ _ from ?_)
  refine P_aw_op (L' := [.ref (w.2.2 13), P_z 0, P_un]) (st' := [.ref (w.2.2 13)]) P_i81_0 rfl (show P_aw _ _ _ 1 [.ref (w.2.2 13), P_z 0, P_un] [.ref (w.2.2 13)] _ _ from ?_)
  refine P_aw_getR P_i81_1 (hw.2.1 13 (by decide)) (hw.s rfl) rfl rfl (show P_aw _ _ _ 4 [.ref (w.2.2 13), P_z 0, P_un] [.ref (w.2.2 6)] _ _ from ?_)
  refine P_aw_call P_i81_4 rfl rfl (fun _ => rfl) rfl rfl rfl rfl (y2 := 30) (as := [.ref (w.2.2 6)]) (r0 := []) (P_inv_v (hw.2.1 6 (by decide)) (hw.s rfl) rfl rfl) (Nat.le_of_ble_eq_true rfl) (by decide) rfl (Nat.le_of_ble_eq_true rfl) (show P_aw _ _ _ 0 [.ref (w.2.2 6)] [] _ _ from ?_)
  refine P_aw_op (L' := [.ref (w.2.2 6)]) (st' := [.ref (w.2.2 6)]) P_i30_0 rfl (show P_aw _ _ _ 1 [.ref (w.2.2 6)] [.ref (w.2.2 6)] _ _ from ?_)
  have hg1 := hA.2.1
  refine P_aw_getv P_i30_1 (hw.2.1 6 (by decide)) (hw.s rfl) rfl rfl (hA.1) (show P_aw _ _ _ 4 [.ref (w.2.2 6)] [P_z 2] _ _ from ?_)
  refine P_aw_end P_i30_4 rfl rfl (fun _ => rfl) rfl ?_
  show P_aw _ _ _ 7 [.ref (w.2.2 13), P_z 0, P_un] [P_z 2] _ _
  refine P_aw_op (L' := [.ref (w.2.2 13), P_z 0, P_z 2]) (st' := []) P_i81_7 rfl (show P_aw _ _ _ 8 [P_un, P_z 0, P_z 2] [] _ _ from ?_)
  refine P_aw_op (L' := [P_un, P_z 0, P_z 2]) (st' := [P_z 2]) P_i81_8 rfl (show P_aw _ _ _ 9 [P_un, P_z 0, P_z 2] [P_z 2] _ _ from ?_)
  refine P_aw_op (L' := [P_un, P_z 0, P_z 2]) (st' := [P_z 3, P_z 2]) P_i81_9 rfl (show P_aw _ _ _ 10 [P_un, P_z 0, P_z 2] [P_z 3, P_z 2] _ _ from ?_)
  refine P_aw_icf P_i81_10 ⟨by decide, by decide⟩ ⟨by decide, by decide⟩ (P_ci_gef (by omega)) (show P_aw _ _ _ 13 [P_un, P_z 0, P_z 2] [] _ _ from ?_)
  refine P_aw_gst P_i81_13 (show P_aw _ _ _ 16 [P_un, P_z 0, P_z 2] [.ref 1] _ _ from ?_)
  refine P_aw_op (L' := [P_un, P_z 0, P_z 2]) (st' := [P_z 0, .ref 1]) P_i81_16 rfl (show P_aw _ _ _ 17 [P_un, P_z 0, P_z 2] [P_z 0, .ref 1] _ _ from ?_)
  refine P_aw_op (L' := [P_un, P_z 0, P_z 2]) (st' := [P_z 2, P_z 0, .ref 1]) P_i81_17 rfl (show P_aw _ _ _ 18 [P_un, P_z 0, P_z 2] [P_z 2, P_z 0, .ref 1] _ _ from ?_)
  refine P_aw_op (L' := [P_un, P_z 0, P_z 2]) (st' := [P_z 2, .ref 1]) P_i81_18 P_o_iadd (show P_aw _ _ _ 19 [P_un, P_z 0, P_z 2] [P_z 2, .ref 1] _ _ from ?_)
  refine P_aw_call P_i81_19 rfl rfl (fun _ => rfl) rfl rfl rfl rfl (y2 := 178) (as := [.ref 1, P_z 2]) (r0 := []) (fun _ _ => rfl) (Nat.le_of_ble_eq_true rfl) (by decide) rfl (Nat.le_of_ble_eq_true rfl) (show P_aw _ _ _ 0 [.ref 1, P_z 2] [] _ _ from ?_)
  refine P_aw_op (L' := [.ref 1, P_z 2]) (st' := [P_z 2]) P_i178_0 rfl (show P_aw _ _ _ 1 [.ref 1, P_z 2] [P_z 2] _ _ from ?_)
  refine P_aw_izf P_i178_1 ⟨by decide, by decide⟩ (P_ci_ltf (by omega)) (show P_aw _ _ _ 4 [.ref 1, P_z 2] [] _ _ from ?_)
  refine P_aw_op (L' := [.ref 1, P_z 2]) (st' := [P_z 2]) P_i178_4 rfl (show P_aw _ _ _ 5 [.ref 1, P_z 2] [P_z 2] _ _ from ?_)
  refine P_aw_op (L' := [.ref 1, P_z 2]) (st' := [.ref 1, P_z 2]) P_i178_5 rfl (show P_aw _ _ _ 6 [.ref 1, P_z 2] [.ref 1, P_z 2] _ _ from ?_)
  refine P_aw_olen P_i178_6 (show P_aw _ _ _ 7 [.ref 1, P_z 2] [P_z 18, P_z 2] _ _ from ?_)
  refine P_aw_icf P_i178_7 ⟨by decide, by decide⟩ ⟨by decide, by decide⟩ (P_ci_gef (by omega)) (show P_aw _ _ _ 10 [.ref 1, P_z 2] [] _ _ from ?_)
  refine P_aw_op (L' := [.ref 1, P_z 2]) (st' := [.ref 1]) P_i178_10 rfl (show P_aw _ _ _ 11 [.ref 1, P_z 2] [.ref 1] _ _ from ?_)
  refine P_aw_op (L' := [.ref 1, P_z 2]) (st' := [P_z 2, .ref 1]) P_i178_11 rfl (show P_aw _ _ _ 12 [.ref 1, P_z 2] [P_z 2, .ref 1] _ _ from ?_)
  refine P_aw_oald P_i178_12 (by decide) (by decide) (by decide +kernel) (show P_aw _ _ _ 13 [.ref 1, P_z 2] [P_z 2] _ _ from ?_)
  refine P_aw_goto P_i178_13 (show P_aw _ _ _ 17 [.ref 1, P_z 2] [P_z 2] _ _ from ?_)
  refine P_aw_end P_i178_17 rfl rfl (fun _ => rfl) rfl ?_
  show P_aw _ _ _ 22 [P_un, P_z 0, P_z 2] [P_z 2] _ _
  refine P_aw_op (L' := [P_un, P_z 0, P_z 2]) (st' := [P_z 2, P_z 2]) P_i81_22 rfl (show P_aw _ _ _ 23 [P_un, P_z 0, P_z 2] [P_z 2, P_z 2] _ _ from ?_)
  refine P_aw_ict P_i81_23 ⟨by decide, by decide⟩ ⟨by decide, by decide⟩ (P_ci_eqt (by omega)) (show P_aw _ _ _ 28 [P_un, P_z 0, P_z 2] [] _ _ from ?_)
  refine P_aw_op (L' := [P_un, P_z 0, P_z 3]) (st' := []) P_i81_28 (P_o_iincv (x := 2) rfl (by decide)) (show P_aw _ _ _ 31 [P_un, P_z 0, P_z 3] [] _ _ from ?_)
  refine P_aw_goto P_i81_31 (show P_aw _ _ _ 8 [P_un, P_z 0, P_z 3] [] _ _ from ?_)
  refine P_aw_op (L' := [P_un, P_z 0, P_z 3]) (st' := [P_z 3]) P_i81_8 rfl (show P_aw _ _ _ 9 [P_un, P_z 0, P_z 3] [P_z 3] _ _ from ?_)
  refine P_aw_op (L' := [P_un, P_z 0, P_z 3]) (st' := [P_z 3, P_z 3]) P_i81_9 rfl (show P_aw _ _ _ 10 [P_un, P_z 0, P_z 3] [P_z 3, P_z 3] _ _ from ?_)
  refine P_aw_ict P_i81_10 ⟨by decide, by decide⟩ ⟨by decide, by decide⟩ (P_ci_get (by omega)) (show P_aw _ _ _ 34 [P_un, P_z 0, P_z 3] [] _ _ from ?_)
  refine P_aw_op (L' := [P_un, P_z 0, P_z 3]) (st' := [P_z 1]) P_i81_34 rfl (show P_aw _ _ _ 35 [P_un, P_z 0, P_z 3] [P_z 1] _ _ from ?_)
  refine P_aw_end P_i81_35 rfl rfl (fun _ => rfl) rfl ?_
  show P_aw _ _ _ 24 [.ref (w.2.2 13), P_zl x.1, P_un, P_z x.2, P_z 0, P_un, P_un] [P_z 1] _ _
  refine P_aw_izt P_i80_24 ⟨by decide, by decide⟩ (P_ci_net (by omega)) (show P_aw _ _ _ 30 [.ref (w.2.2 13), P_zl x.1, P_un, P_z x.2, P_z 0, P_un, P_un] [] _ _ from ?_)
  refine P_aw_op (L' := [.ref (w.2.2 13), P_zl x.1, P_un, P_z x.2, P_z 0, P_un, P_un]) (st' := [.ref (w.2.2 13)]) P_i80_30 rfl (show P_aw _ _ _ 31 [.ref (w.2.2 13), P_zl x.1, P_un, P_z x.2, P_z 0, P_un, P_un] [.ref (w.2.2 13)] _ _ from ?_)
  refine P_aw_op (L' := [.ref (w.2.2 13), P_zl x.1, P_un, P_z x.2, P_z 0, P_un, P_un]) (st' := [P_z 0, .ref (w.2.2 13)]) P_i80_31 rfl (show P_aw _ _ _ 33 [.ref (w.2.2 13), P_zl x.1, P_un, P_z x.2, P_z 0, P_un, P_un] [P_z 0, .ref (w.2.2 13)] _ _ from ?_)
  refine P_aw_call P_i80_33 rfl rfl (fun _ => rfl) rfl rfl rfl rfl (y2 := 82) (as := [.ref (w.2.2 13), P_z 0]) (r0 := []) (P_inv_v (hw.2.1 13 (by decide)) (hw.s rfl) rfl rfl) (Nat.le_of_ble_eq_true rfl) (by decide) rfl (Nat.le_of_ble_eq_true rfl) (s_bi hw (by omega) hC hs ?_)
  show P_aw _ _ _ 36 [.ref (w.2.2 13), P_zl x.1, P_un, P_z x.2, P_z 0, P_un, P_un] [] _ _
  refine P_aw_op (L' := [.ref (w.2.2 13), P_zl x.1, P_un, P_z x.2, P_z 0, P_un, P_un]) (st' := [.ref (w.2.2 13)]) P_i80_36 rfl (show P_aw _ _ _ 37 [.ref (w.2.2 13), P_zl x.1, P_un, P_z x.2, P_z 0, P_un, P_un] [.ref (w.2.2 13)] _ _ from ?_)
  have hp2 := A_cst_rg (nv := nv) (sz := sz) (cL := cL) (cS := cS) (cR := cR) hA hs
  refine P_aw_call P_i80_37 rfl rfl (fun _ => rfl) rfl rfl rfl rfl (y2 := 67) (as := [.ref (w.2.2 13)]) (r0 := []) (P_inv_v (hw.2.1 13 (by decide)) (hw.s rfl) rfl rfl) (Nat.le_of_ble_eq_true rfl) (by decide) rfl (Nat.le_of_ble_eq_true rfl) (s_cost hw (A_V_bi (by omega) hA) (A_O_bi (by omega) hs (by omega)) (A_C_bi hC) ((A_bi_ne (by omega) (by omega)).trans hN) hn01 ?_)
  show P_aw _ _ _ 40 [.ref (w.2.2 13), P_zl x.1, P_un, P_z x.2, P_z 0, P_un, P_un] [P_zl ((A_cst rw vr nv 2 sz cL cS cR) 0)] _ _
  refine P_aw_op (L' := [.ref (w.2.2 13), P_zl x.1, P_un, P_z x.2, P_z 0, P_zl ((A_cst rw vr nv 2 sz cL cS cR) 0), P_un]) (st' := []) P_i80_40 rfl (show P_aw _ _ _ 42 [.ref (w.2.2 13), P_zl x.1, P_un, P_z x.2, P_z 0, P_zl ((A_cst rw vr nv 2 sz cL cS cR) 0), P_un] [] _ _ from ?_)
  refine P_aw_op (L' := [.ref (w.2.2 13), P_zl x.1, P_un, P_z x.2, P_z 0, P_zl ((A_cst rw vr nv 2 sz cL cS cR) 0), P_un]) (st' := [P_zl x.1]) P_i80_42 rfl (show P_aw _ _ _ 43 [.ref (w.2.2 13), P_zl x.1, P_un, P_z x.2, P_z 0, P_zl ((A_cst rw vr nv 2 sz cL cS cR) 0), P_un] [P_zl x.1] _ _ from ?_)
  refine P_aw_op (L' := [.ref (w.2.2 13), P_zl x.1, P_un, P_z x.2, P_z 0, P_zl ((A_cst rw vr nv 2 sz cL cS cR) 0), P_un]) (st' := [P_zl (-1), P_zl x.1]) P_i80_43 rfl (show P_aw _ _ _ 46 [.ref (w.2.2 13), P_zl x.1, P_un, P_z x.2, P_z 0, P_zl ((A_cst rw vr nv 2 sz cL cS cR) 0), P_un] [P_zl (-1), P_zl x.1] _ _ from ?_)
  by_cases hc3 : x.1 = (-1)
  · refine P_aw_lct P_i80_46 P_i80_47 ⟨by omega, by omega⟩ ⟨by decide, by decide⟩ (P_ci_eqt (by omega)) (show P_aw _ _ _ 57 [.ref (w.2.2 13), P_zl x.1, P_un, P_z x.2, P_z 0, P_zl ((A_cst rw vr nv 2 sz cL cS cR) 0), P_un] [] _ _ from ?_)
    refine P_aw_op (L' := [.ref (w.2.2 13), P_zl x.1, P_un, P_z x.2, P_z 0, P_zl ((A_cst rw vr nv 2 sz cL cS cR) 0), P_un]) (st' := [P_zl ((A_cst rw vr nv 2 sz cL cS cR) 0)]) P_i80_57 rfl (show P_aw _ _ _ 59 [.ref (w.2.2 13), P_zl x.1, P_un, P_z x.2, P_z 0, P_zl ((A_cst rw vr nv 2 sz cL cS cR) 0), P_un] [P_zl ((A_cst rw vr nv 2 sz cL cS cR) 0)] _ _ from ?_)
    refine P_aw_op (L' := [.ref (w.2.2 13), P_zl ((A_cst rw vr nv 2 sz cL cS cR) 0), P_un, P_z x.2, P_z 0, P_zl ((A_cst rw vr nv 2 sz cL cS cR) 0), P_un]) (st' := []) P_i80_59 rfl (show P_aw _ _ _ 60 [.ref (w.2.2 13), P_zl ((A_cst rw vr nv 2 sz cL cS cR) 0), P_un, P_z x.2, P_z 0, P_zl ((A_cst rw vr nv 2 sz cL cS cR) 0), P_un] [] _ _ from ?_)
    refine P_aw_op (L' := [.ref (w.2.2 13), P_zl ((A_cst rw vr nv 2 sz cL cS cR) 0), P_un, P_z x.2, P_z 0, P_zl ((A_cst rw vr nv 2 sz cL cS cR) 0), P_un]) (st' := [P_z 0]) P_i80_60 rfl (show P_aw _ _ _ 62 [.ref (w.2.2 13), P_zl ((A_cst rw vr nv 2 sz cL cS cR) 0), P_un, P_z x.2, P_z 0, P_zl ((A_cst rw vr nv 2 sz cL cS cR) 0), P_un] [P_z 0] _ _ from ?_)
    refine P_aw_op (L' := [.ref (w.2.2 13), P_zl ((A_cst rw vr nv 2 sz cL cS cR) 0), P_un, P_z 0, P_z 0, P_zl ((A_cst rw vr nv 2 sz cL cS cR) 0), P_un]) (st' := []) P_i80_62 rfl (show P_aw _ _ _ 63 [.ref (w.2.2 13), P_zl ((A_cst rw vr nv 2 sz cL cS cR) 0), P_un, P_z 0, P_z 0, P_zl ((A_cst rw vr nv 2 sz cL cS cR) 0), P_un] [] _ _ from ?_)
    refine P_aw_op (L' := [.ref (w.2.2 13), P_zl ((A_cst rw vr nv 2 sz cL cS cR) 0), P_un, P_z 0, P_z 3, P_zl ((A_cst rw vr nv 2 sz cL cS cR) 0), P_un]) (st' := []) P_i80_63 (P_o_iincv (x := 0) rfl (by decide)) (show P_aw _ _ _ 66 [.ref (w.2.2 13), P_zl ((A_cst rw vr nv 2 sz cL cS cR) 0), P_un, P_z 0, P_z 3, P_zl ((A_cst rw vr nv 2 sz cL cS cR) 0), P_un] [] _ _ from ?_)
    refine P_aw_goto P_i80_66 (show P_aw _ _ _ 9 [.ref (w.2.2 13), P_zl ((A_cst rw vr nv 2 sz cL cS cR) 0), P_un, P_z 0, P_z 3, P_un, P_un] [] _ _ from ?_)
    exact (by simp only [A_bt] at q; first | (rw [if_pos (by omega)] at q; exact q) | (rw [if_neg (by omega)] at q; exact q))
  · refine P_aw_lcf P_i80_46 P_i80_47 ⟨by omega, by omega⟩ ⟨by decide, by decide⟩ (P_ci_eqf (by omega)) (show P_aw _ _ _ 50 [.ref (w.2.2 13), P_zl x.1, P_un, P_z x.2, P_z 0, P_zl ((A_cst rw vr nv 2 sz cL cS cR) 0), P_un] [] _ _ from ?_)
    refine P_aw_op (L' := [.ref (w.2.2 13), P_zl x.1, P_un, P_z x.2, P_z 0, P_zl ((A_cst rw vr nv 2 sz cL cS cR) 0), P_un]) (st' := [P_zl ((A_cst rw vr nv 2 sz cL cS cR) 0)]) P_i80_50 rfl (show P_aw _ _ _ 52 [.ref (w.2.2 13), P_zl x.1, P_un, P_z x.2, P_z 0, P_zl ((A_cst rw vr nv 2 sz cL cS cR) 0), P_un] [P_zl ((A_cst rw vr nv 2 sz cL cS cR) 0)] _ _ from ?_)
    refine P_aw_op (L' := [.ref (w.2.2 13), P_zl x.1, P_un, P_z x.2, P_z 0, P_zl ((A_cst rw vr nv 2 sz cL cS cR) 0), P_un]) (st' := [P_zl x.1, P_zl ((A_cst rw vr nv 2 sz cL cS cR) 0)]) P_i80_52 rfl (show P_aw _ _ _ 53 [.ref (w.2.2 13), P_zl x.1, P_un, P_z x.2, P_z 0, P_zl ((A_cst rw vr nv 2 sz cL cS cR) 0), P_un] [P_zl x.1, P_zl ((A_cst rw vr nv 2 sz cL cS cR) 0)] _ _ from ?_)
    rcases Int.lt_or_le ((A_cst rw vr nv 2 sz cL cS cR) 0) x.1 with hc4 | hc4
    · refine P_aw_lcf P_i80_53 P_i80_54 ⟨by omega, by omega⟩ ⟨by omega, by omega⟩ (P_ci_gef (by omega)) (show P_aw _ _ _ 57 [.ref (w.2.2 13), P_zl x.1, P_un, P_z x.2, P_z 0, P_zl ((A_cst rw vr nv 2 sz cL cS cR) 0), P_un] [] _ _ from ?_)
      refine P_aw_op (L' := [.ref (w.2.2 13), P_zl x.1, P_un, P_z x.2, P_z 0, P_zl ((A_cst rw vr nv 2 sz cL cS cR) 0), P_un]) (st' := [P_zl ((A_cst rw vr nv 2 sz cL cS cR) 0)]) P_i80_57 rfl (show P_aw _ _ _ 59 [.ref (w.2.2 13), P_zl x.1, P_un, P_z x.2, P_z 0, P_zl ((A_cst rw vr nv 2 sz cL cS cR) 0), P_un] [P_zl ((A_cst rw vr nv 2 sz cL cS cR) 0)] _ _ from ?_)
      refine P_aw_op (L' := [.ref (w.2.2 13), P_zl ((A_cst rw vr nv 2 sz cL cS cR) 0), P_un, P_z x.2, P_z 0, P_zl ((A_cst rw vr nv 2 sz cL cS cR) 0), P_un]) (st' := []) P_i80_59 rfl (show P_aw _ _ _ 60 [.ref (w.2.2 13), P_zl ((A_cst rw vr nv 2 sz cL cS cR) 0), P_un, P_z x.2, P_z 0, P_zl ((A_cst rw vr nv 2 sz cL cS cR) 0), P_un] [] _ _ from ?_)
      refine P_aw_op (L' := [.ref (w.2.2 13), P_zl ((A_cst rw vr nv 2 sz cL cS cR) 0), P_un, P_z x.2, P_z 0, P_zl ((A_cst rw vr nv 2 sz cL cS cR) 0), P_un]) (st' := [P_z 0]) P_i80_60 rfl (show P_aw _ _ _ 62 [.ref (w.2.2 13), P_zl ((A_cst rw vr nv 2 sz cL cS cR) 0), P_un, P_z x.2, P_z 0, P_zl ((A_cst rw vr nv 2 sz cL cS cR) 0), P_un] [P_z 0] _ _ from ?_)
      refine P_aw_op (L' := [.ref (w.2.2 13), P_zl ((A_cst rw vr nv 2 sz cL cS cR) 0), P_un, P_z 0, P_z 0, P_zl ((A_cst rw vr nv 2 sz cL cS cR) 0), P_un]) (st' := []) P_i80_62 rfl (show P_aw _ _ _ 63 [.ref (w.2.2 13), P_zl ((A_cst rw vr nv 2 sz cL cS cR) 0), P_un, P_z 0, P_z 0, P_zl ((A_cst rw vr nv 2 sz cL cS cR) 0), P_un] [] _ _ from ?_)
      refine P_aw_op (L' := [.ref (w.2.2 13), P_zl ((A_cst rw vr nv 2 sz cL cS cR) 0), P_un, P_z 0, P_z 3, P_zl ((A_cst rw vr nv 2 sz cL cS cR) 0), P_un]) (st' := []) P_i80_63 (P_o_iincv (x := 0) rfl (by decide)) (show P_aw _ _ _ 66 [.ref (w.2.2 13), P_zl ((A_cst rw vr nv 2 sz cL cS cR) 0), P_un, P_z 0, P_z 3, P_zl ((A_cst rw vr nv 2 sz cL cS cR) 0), P_un] [] _ _ from ?_)
      refine P_aw_goto P_i80_66 (show P_aw _ _ _ 9 [.ref (w.2.2 13), P_zl ((A_cst rw vr nv 2 sz cL cS cR) 0), P_un, P_z 0, P_z 3, P_un, P_un] [] _ _ from ?_)
      exact (by simp only [A_bt] at q; first | (rw [if_pos (by omega)] at q; exact q) | (rw [if_neg (by omega)] at q; exact q))
    · refine P_aw_lct P_i80_53 P_i80_54 ⟨by omega, by omega⟩ ⟨by omega, by omega⟩ (P_ci_get (by omega)) (show P_aw _ _ _ 63 [.ref (w.2.2 13), P_zl x.1, P_un, P_z x.2, P_z 0, P_zl ((A_cst rw vr nv 2 sz cL cS cR) 0), P_un] [] _ _ from ?_)
      refine P_aw_op (L' := [.ref (w.2.2 13), P_zl x.1, P_un, P_z x.2, P_z 3, P_zl ((A_cst rw vr nv 2 sz cL cS cR) 0), P_un]) (st' := []) P_i80_63 (P_o_iincv (x := 0) rfl (by decide)) (show P_aw _ _ _ 66 [.ref (w.2.2 13), P_zl x.1, P_un, P_z x.2, P_z 3, P_zl ((A_cst rw vr nv 2 sz cL cS cR) 0), P_un] [] _ _ from ?_)
      refine P_aw_goto P_i80_66 (show P_aw _ _ _ 9 [.ref (w.2.2 13), P_zl x.1, P_un, P_z x.2, P_z 3, P_un, P_un] [] _ _ from ?_)
      exact (by simp only [A_bt] at q; first | (rw [if_pos (by omega)] at q; exact q) | (rw [if_neg (by omega)] at q; exact q))

theorem s_bt2_3 {w : P_Lw} (hw : P_Cw w) {d : Nat} {Q : P_R → P_A → Prop} {σ : P_A} {tb : Int → Nat} {rw : Int → Int} {vr : Int → Int → Int} (hA : A_V w σ 2 tb rw vr) {sz : Int} {cL cS cR cV : Int → Int} (hC : A_C σ 2 sz cL cS cR cV) {nv : Int} (hN : σ 13 5 = nv) (hn01 : 0 ≤ nv ∧ nv ≤ 1) {x : Int × Int} (hx : -1 ≤ x.1 ∧ x.1 ≤ 3000) (q : P_aw w (d + 8) 80 9 [.ref (w.2.2 13), P_zl x.1, P_un, P_z x.2, P_z 6, P_un, P_un] [] σ Q) : P_aw w (d + 8) 80 9 [.ref (w.2.2 13), P_zl x.1, P_un, P_z x.2, P_z 3, P_un, P_un] [] σ Q := by
  have hsz := hC.2.1
  refine P_aw_op (L' := [.ref (w.2.2 13), P_zl x.1, P_un, P_z x.2, P_z 3, P_un, P_un]) (st' := [P_z 3]) P_i80_9 rfl (show P_aw _ _ _ 11 [.ref (w.2.2 13), P_zl x.1, P_un, P_z x.2, P_z 3, P_un, P_un] [P_z 3] _ _ from ?_)
  refine P_aw_gst P_i80_11 (show P_aw _ _ _ 14 [.ref (w.2.2 13), P_zl x.1, P_un, P_z x.2, P_z 3, P_un, P_un] [.ref 1, P_z 3] _ _ from ?_)
  refine P_aw_olen P_i80_14 (show P_aw _ _ _ 15 [.ref (w.2.2 13), P_zl x.1, P_un, P_z x.2, P_z 3, P_un, P_un] [P_z 18, P_z 3] _ _ from ?_)
  refine P_aw_icf P_i80_15 ⟨by decide, by decide⟩ ⟨by decide, by decide⟩ (P_ci_gef (by omega)) (show P_aw _ _ _ 18 [.ref (w.2.2 13), P_zl x.1, P_un, P_z x.2, P_z 3, P_un, P_un] [] _ _ from ?_)
  refine P_aw_op (L' := [.ref (w.2.2 13), P_zl x.1, P_un, P_z x.2, P_z 3, P_un, P_un]) (st' := [.ref (w.2.2 13)]) P_i80_18 rfl (show P_aw _ _ _ 19 [.ref (w.2.2 13), P_zl x.1, P_un, P_z x.2, P_z 3, P_un, P_un] [.ref (w.2.2 13)] _ _ from ?_)
  refine P_aw_op (L' := [.ref (w.2.2 13), P_zl x.1, P_un, P_z x.2, P_z 3, P_un, P_un]) (st' := [P_z 3, .ref (w.2.2 13)]) P_i80_19 rfl (show P_aw _ _ _ 21 [.ref (w.2.2 13), P_zl x.1, P_un, P_z x.2, P_z 3, P_un, P_un] [P_z 3, .ref (w.2.2 13)] _ _ from ?_)
  refine P_aw_call P_i80_21 rfl rfl (fun _ => rfl) rfl rfl rfl rfl (y2 := 81) (as := [.ref (w.2.2 13), P_z 3]) (r0 := []) (P_inv_v (hw.2.1 13 (by decide)) (hw.s rfl) rfl rfl) (Nat.le_of_ble_eq_true rfl) (by decide) rfl (Nat.le_of_ble_eq_true rfl) (show P_aw _ _ _ 0 [.ref (w.2.2 13), P_z 3, P_un] [] _ _ from ?_)
  refine P_aw_op (L' := [.ref (w.2.2 13), P_z 3, P_un]) (st' := [.ref (w.2.2 13)]) P_i81_0 rfl (show P_aw _ _ _ 1 [.ref (w.2.2 13), P_z 3, P_un] [.ref (w.2.2 13)] _ _ from ?_)
  refine P_aw_getR P_i81_1 (hw.2.1 13 (by decide)) (hw.s rfl) rfl rfl (show P_aw _ _ _ 4 [.ref (w.2.2 13), P_z 3, P_un] [.ref (w.2.2 6)] _ _ from ?_)
  refine P_aw_call P_i81_4 rfl rfl (fun _ => rfl) rfl rfl rfl rfl (y2 := 30) (as := [.ref (w.2.2 6)]) (r0 := []) (P_inv_v (hw.2.1 6 (by decide)) (hw.s rfl) rfl rfl) (Nat.le_of_ble_eq_true rfl) (by decide) rfl (Nat.le_of_ble_eq_true rfl) (show P_aw _ _ _ 0 [.ref (w.2.2 6)] [] _ _ from ?_)
  refine P_aw_op (L' := [.ref (w.2.2 6)]) (st' := [.ref (w.2.2 6)]) P_i30_0 rfl (show P_aw _ _ _ 1 [.ref (w.2.2 6)] [.ref (w.2.2 6)] _ _ from ?_)
  have hg1 := hA.2.1
  refine P_aw_getv P_i30_1 (hw.2.1 6 (by decide)) (hw.s rfl) rfl rfl (hA.1) (show P_aw _ _ _ 4 [.ref (w.2.2 6)] [P_z 2] _ _ from ?_)
  refine P_aw_end P_i30_4 rfl rfl (fun _ => rfl) rfl ?_
  show P_aw _ _ _ 7 [.ref (w.2.2 13), P_z 3, P_un] [P_z 2] _ _
  refine P_aw_op (L' := [.ref (w.2.2 13), P_z 3, P_z 2]) (st' := []) P_i81_7 rfl (show P_aw _ _ _ 8 [P_un, P_z 3, P_z 2] [] _ _ from ?_)
  refine P_aw_op (L' := [P_un, P_z 3, P_z 2]) (st' := [P_z 2]) P_i81_8 rfl (show P_aw _ _ _ 9 [P_un, P_z 3, P_z 2] [P_z 2] _ _ from ?_)
  refine P_aw_op (L' := [P_un, P_z 3, P_z 2]) (st' := [P_z 3, P_z 2]) P_i81_9 rfl (show P_aw _ _ _ 10 [P_un, P_z 3, P_z 2] [P_z 3, P_z 2] _ _ from ?_)
  refine P_aw_icf P_i81_10 ⟨by decide, by decide⟩ ⟨by decide, by decide⟩ (P_ci_gef (by omega)) (show P_aw _ _ _ 13 [P_un, P_z 3, P_z 2] [] _ _ from ?_)
  refine P_aw_gst P_i81_13 (show P_aw _ _ _ 16 [P_un, P_z 3, P_z 2] [.ref 1] _ _ from ?_)
  refine P_aw_op (L' := [P_un, P_z 3, P_z 2]) (st' := [P_z 3, .ref 1]) P_i81_16 rfl (show P_aw _ _ _ 17 [P_un, P_z 3, P_z 2] [P_z 3, .ref 1] _ _ from ?_)
  refine P_aw_op (L' := [P_un, P_z 3, P_z 2]) (st' := [P_z 2, P_z 3, .ref 1]) P_i81_17 rfl (show P_aw _ _ _ 18 [P_un, P_z 3, P_z 2] [P_z 2, P_z 3, .ref 1] _ _ from ?_)
  refine P_aw_op (L' := [P_un, P_z 3, P_z 2]) (st' := [P_z 5, .ref 1]) P_i81_18 P_o_iadd (show P_aw _ _ _ 19 [P_un, P_z 3, P_z 2] [P_z 5, .ref 1] _ _ from ?_)
  refine P_aw_call P_i81_19 rfl rfl (fun _ => rfl) rfl rfl rfl rfl (y2 := 178) (as := [.ref 1, P_z 5]) (r0 := []) (fun _ _ => rfl) (Nat.le_of_ble_eq_true rfl) (by decide) rfl (Nat.le_of_ble_eq_true rfl) (show P_aw _ _ _ 0 [.ref 1, P_z 5] [] _ _ from ?_)
  refine P_aw_op (L' := [.ref 1, P_z 5]) (st' := [P_z 5]) P_i178_0 rfl (show P_aw _ _ _ 1 [.ref 1, P_z 5] [P_z 5] _ _ from ?_)
  refine P_aw_izf P_i178_1 ⟨by decide, by decide⟩ (P_ci_ltf (by omega)) (show P_aw _ _ _ 4 [.ref 1, P_z 5] [] _ _ from ?_)
  refine P_aw_op (L' := [.ref 1, P_z 5]) (st' := [P_z 5]) P_i178_4 rfl (show P_aw _ _ _ 5 [.ref 1, P_z 5] [P_z 5] _ _ from ?_)
  refine P_aw_op (L' := [.ref 1, P_z 5]) (st' := [.ref 1, P_z 5]) P_i178_5 rfl (show P_aw _ _ _ 6 [.ref 1, P_z 5] [.ref 1, P_z 5] _ _ from ?_)
  refine P_aw_olen P_i178_6 (show P_aw _ _ _ 7 [.ref 1, P_z 5] [P_z 18, P_z 5] _ _ from ?_)
  refine P_aw_icf P_i178_7 ⟨by decide, by decide⟩ ⟨by decide, by decide⟩ (P_ci_gef (by omega)) (show P_aw _ _ _ 10 [.ref 1, P_z 5] [] _ _ from ?_)
  refine P_aw_op (L' := [.ref 1, P_z 5]) (st' := [.ref 1]) P_i178_10 rfl (show P_aw _ _ _ 11 [.ref 1, P_z 5] [.ref 1] _ _ from ?_)
  refine P_aw_op (L' := [.ref 1, P_z 5]) (st' := [P_z 5, .ref 1]) P_i178_11 rfl (show P_aw _ _ _ 12 [.ref 1, P_z 5] [P_z 5, .ref 1] _ _ from ?_)
  refine P_aw_oald P_i178_12 (by decide) (by decide) (by decide +kernel) (show P_aw _ _ _ 13 [.ref 1, P_z 5] [P_z 1] _ _ from ?_)
  refine P_aw_goto P_i178_13 (show P_aw _ _ _ 17 [.ref 1, P_z 5] [P_z 1] _ _ from ?_)
  refine P_aw_end P_i178_17 rfl rfl (fun _ => rfl) rfl ?_
  show P_aw _ _ _ 22 [P_un, P_z 3, P_z 2] [P_z 1] _ _
  refine P_aw_op (L' := [P_un, P_z 3, P_z 2]) (st' := [P_z 2, P_z 1]) P_i81_22 rfl (show P_aw _ _ _ 23 [P_un, P_z 3, P_z 2] [P_z 2, P_z 1] _ _ from ?_)
  refine P_aw_icf P_i81_23 ⟨by decide, by decide⟩ ⟨by decide, by decide⟩ (P_ci_eqf (by omega)) (show P_aw _ _ _ 26 [P_un, P_z 3, P_z 2] [] _ _ from ?_)
  refine P_aw_op (L' := [P_un, P_z 3, P_z 2]) (st' := [P_z 0]) P_i81_26 rfl (show P_aw _ _ _ 27 [P_un, P_z 3, P_z 2] [P_z 0] _ _ from ?_)
  refine P_aw_end P_i81_27 rfl rfl (fun _ => rfl) rfl ?_
  show P_aw _ _ _ 24 [.ref (w.2.2 13), P_zl x.1, P_un, P_z x.2, P_z 3, P_un, P_un] [P_z 0] _ _
  refine P_aw_izf P_i80_24 ⟨by decide, by decide⟩ (P_ci_nef (by omega)) (show P_aw _ _ _ 27 [.ref (w.2.2 13), P_zl x.1, P_un, P_z x.2, P_z 3, P_un, P_un] [] _ _ from ?_)
  refine P_aw_goto P_i80_27 (show P_aw _ _ _ 63 [.ref (w.2.2 13), P_zl x.1, P_un, P_z x.2, P_z 3, P_un, P_un] [] _ _ from ?_)
  refine P_aw_op (L' := [.ref (w.2.2 13), P_zl x.1, P_un, P_z x.2, P_z 6, P_un, P_un]) (st' := []) P_i80_63 (P_o_iincv (x := 3) rfl (by decide)) (show P_aw _ _ _ 66 [.ref (w.2.2 13), P_zl x.1, P_un, P_z x.2, P_z 6, P_un, P_un] [] _ _ from ?_)
  refine P_aw_goto P_i80_66 (show P_aw _ _ _ 9 [.ref (w.2.2 13), P_zl x.1, P_un, P_z x.2, P_z 6, P_un, P_un] [] _ _ from ?_)
  exact q

theorem s_bt2_6 {w : P_Lw} (hw : P_Cw w) {d : Nat} {Q : P_R → P_A → Prop} {σ : P_A} {tb : Int → Nat} {rw : Int → Int} {vr : Int → Int → Int} (hA : A_V w σ 2 tb rw vr) {sz : Int} {cL cS cR cV : Int → Int} (hC : A_C σ 2 sz cL cS cR cV) {nv : Int} (hN : σ 13 5 = nv) (hn01 : 0 ≤ nv ∧ nv ≤ 1) {x : Int × Int} (hx : -1 ≤ x.1 ∧ x.1 ≤ 3000) (hs : A_isO 2 6) (q : P_aw w (d + 8) 80 9 [.ref (w.2.2 13), P_zl (A_bt (A_cst rw vr nv 2 sz cL cS cR) 6 x).1, P_un, P_z (A_bt (A_cst rw vr nv 2 sz cL cS cR) 6 x).2, P_z 9, P_un, P_un] [] (A_bi σ 6 sz cL cR) Q) : P_aw w (d + 8) 80 9 [.ref (w.2.2 13), P_zl x.1, P_un, P_z x.2, P_z 6, P_un, P_un] [] σ Q := by
  have hsz := hC.2.1
  refine P_aw_op (L' := [.ref (w.2.2 13), P_zl x.1, P_un, P_z x.2, P_z 6, P_un, P_un]) (st' := [P_z 6]) P_i80_9 rfl (show P_aw _ _ _ 11 [.ref (w.2.2 13), P_zl x.1, P_un, P_z x.2, P_z 6, P_un, P_un] [P_z 6] _ _ from ?_)
  refine P_aw_gst P_i80_11 (show P_aw _ _ _ 14 [.ref (w.2.2 13), P_zl x.1, P_un, P_z x.2, P_z 6, P_un, P_un] [.ref 1, P_z 6] _ _ from ?_)
  refine P_aw_olen P_i80_14 (show P_aw _ _ _ 15 [.ref (w.2.2 13), P_zl x.1, P_un, P_z x.2, P_z 6, P_un, P_un] [P_z 18, P_z 6] _ _ from ?_)
  refine P_aw_icf P_i80_15 ⟨by decide, by decide⟩ ⟨by decide, by decide⟩ (P_ci_gef (by omega)) (show P_aw _ _ _ 18 [.ref (w.2.2 13), P_zl x.1, P_un, P_z x.2, P_z 6, P_un, P_un] [] _ _ from ?_)
  refine P_aw_op (L' := [.ref (w.2.2 13), P_zl x.1, P_un, P_z x.2, P_z 6, P_un, P_un]) (st' := [.ref (w.2.2 13)]) P_i80_18 rfl (show P_aw _ _ _ 19 [.ref (w.2.2 13), P_zl x.1, P_un, P_z x.2, P_z 6, P_un, P_un] [.ref (w.2.2 13)] _ _ from ?_)
  refine P_aw_op (L' := [.ref (w.2.2 13), P_zl x.1, P_un, P_z x.2, P_z 6, P_un, P_un]) (st' := [P_z 6, .ref (w.2.2 13)]) P_i80_19 rfl (show P_aw _ _ _ 21 [.ref (w.2.2 13), P_zl x.1, P_un, P_z x.2, P_z 6, P_un, P_un] [P_z 6, .ref (w.2.2 13)] _ _ from ?_)
  refine P_aw_call P_i80_21 rfl rfl (fun _ => rfl) rfl rfl rfl rfl (y2 := 81) (as := [.ref (w.2.2 13), P_z 6]) (r0 := []) (P_inv_v (hw.2.1 13 (by decide)) (hw.s rfl) rfl rfl) (Nat.le_of_ble_eq_true rfl) (by decide) rfl (Nat.le_of_ble_eq_true rfl) (show P_aw _ _ _ 0 [.ref (w.2.2 13), P_z 6, P_un] [] _ _ from ?_)
  refine P_aw_op (L' := [.ref (w.2.2 13), P_z 6, P_un]) (st' := [.ref (w.2.2 13)]) P_i81_0 rfl (show P_aw _ _ _ 1 [.ref (w.2.2 13), P_z 6, P_un] [.ref (w.2.2 13)] _ _ from ?_)
  refine P_aw_getR P_i81_1 (hw.2.1 13 (by decide)) (hw.s rfl) rfl rfl (show P_aw _ _ _ 4 [.ref (w.2.2 13), P_z 6, P_un] [.ref (w.2.2 6)] _ _ from ?_)
  refine P_aw_call P_i81_4 rfl rfl (fun _ => rfl) rfl rfl rfl rfl (y2 := 30) (as := [.ref (w.2.2 6)]) (r0 := []) (P_inv_v (hw.2.1 6 (by decide)) (hw.s rfl) rfl rfl) (Nat.le_of_ble_eq_true rfl) (by decide) rfl (Nat.le_of_ble_eq_true rfl) (show P_aw _ _ _ 0 [.ref (w.2.2 6)] [] _ _ from ?_)
  refine P_aw_op (L' := [.ref (w.2.2 6)]) (st' := [.ref (w.2.2 6)]) P_i30_0 rfl (show P_aw _ _ _ 1 [.ref (w.2.2 6)] [.ref (w.2.2 6)] _ _ from ?_)
  have hg1 := hA.2.1
  refine P_aw_getv P_i30_1 (hw.2.1 6 (by decide)) (hw.s rfl) rfl rfl (hA.1) (show P_aw _ _ _ 4 [.ref (w.2.2 6)] [P_z 2] _ _ from ?_)
  refine P_aw_end P_i30_4 rfl rfl (fun _ => rfl) rfl ?_
  show P_aw _ _ _ 7 [.ref (w.2.2 13), P_z 6, P_un] [P_z 2] _ _
  refine P_aw_op (L' := [.ref (w.2.2 13), P_z 6, P_z 2]) (st' := []) P_i81_7 rfl (show P_aw _ _ _ 8 [P_un, P_z 6, P_z 2] [] _ _ from ?_)
  refine P_aw_op (L' := [P_un, P_z 6, P_z 2]) (st' := [P_z 2]) P_i81_8 rfl (show P_aw _ _ _ 9 [P_un, P_z 6, P_z 2] [P_z 2] _ _ from ?_)
  refine P_aw_op (L' := [P_un, P_z 6, P_z 2]) (st' := [P_z 3, P_z 2]) P_i81_9 rfl (show P_aw _ _ _ 10 [P_un, P_z 6, P_z 2] [P_z 3, P_z 2] _ _ from ?_)
  refine P_aw_icf P_i81_10 ⟨by decide, by decide⟩ ⟨by decide, by decide⟩ (P_ci_gef (by omega)) (show P_aw _ _ _ 13 [P_un, P_z 6, P_z 2] [] _ _ from ?_)
  refine P_aw_gst P_i81_13 (show P_aw _ _ _ 16 [P_un, P_z 6, P_z 2] [.ref 1] _ _ from ?_)
  refine P_aw_op (L' := [P_un, P_z 6, P_z 2]) (st' := [P_z 6, .ref 1]) P_i81_16 rfl (show P_aw _ _ _ 17 [P_un, P_z 6, P_z 2] [P_z 6, .ref 1] _ _ from ?_)
  refine P_aw_op (L' := [P_un, P_z 6, P_z 2]) (st' := [P_z 2, P_z 6, .ref 1]) P_i81_17 rfl (show P_aw _ _ _ 18 [P_un, P_z 6, P_z 2] [P_z 2, P_z 6, .ref 1] _ _ from ?_)
  refine P_aw_op (L' := [P_un, P_z 6, P_z 2]) (st' := [P_z 8, .ref 1]) P_i81_18 P_o_iadd (show P_aw _ _ _ 19 [P_un, P_z 6, P_z 2] [P_z 8, .ref 1] _ _ from ?_)
  refine P_aw_call P_i81_19 rfl rfl (fun _ => rfl) rfl rfl rfl rfl (y2 := 178) (as := [.ref 1, P_z 8]) (r0 := []) (fun _ _ => rfl) (Nat.le_of_ble_eq_true rfl) (by decide) rfl (Nat.le_of_ble_eq_true rfl) (show P_aw _ _ _ 0 [.ref 1, P_z 8] [] _ _ from ?_)
  refine P_aw_op (L' := [.ref 1, P_z 8]) (st' := [P_z 8]) P_i178_0 rfl (show P_aw _ _ _ 1 [.ref 1, P_z 8] [P_z 8] _ _ from ?_)
  refine P_aw_izf P_i178_1 ⟨by decide, by decide⟩ (P_ci_ltf (by omega)) (show P_aw _ _ _ 4 [.ref 1, P_z 8] [] _ _ from ?_)
  refine P_aw_op (L' := [.ref 1, P_z 8]) (st' := [P_z 8]) P_i178_4 rfl (show P_aw _ _ _ 5 [.ref 1, P_z 8] [P_z 8] _ _ from ?_)
  refine P_aw_op (L' := [.ref 1, P_z 8]) (st' := [.ref 1, P_z 8]) P_i178_5 rfl (show P_aw _ _ _ 6 [.ref 1, P_z 8] [.ref 1, P_z 8] _ _ from ?_)
  refine P_aw_olen P_i178_6 (show P_aw _ _ _ 7 [.ref 1, P_z 8] [P_z 18, P_z 8] _ _ from ?_)
  refine P_aw_icf P_i178_7 ⟨by decide, by decide⟩ ⟨by decide, by decide⟩ (P_ci_gef (by omega)) (show P_aw _ _ _ 10 [.ref 1, P_z 8] [] _ _ from ?_)
  refine P_aw_op (L' := [.ref 1, P_z 8]) (st' := [.ref 1]) P_i178_10 rfl (show P_aw _ _ _ 11 [.ref 1, P_z 8] [.ref 1] _ _ from ?_)
  refine P_aw_op (L' := [.ref 1, P_z 8]) (st' := [P_z 8, .ref 1]) P_i178_11 rfl (show P_aw _ _ _ 12 [.ref 1, P_z 8] [P_z 8, .ref 1] _ _ from ?_)
  refine P_aw_oald P_i178_12 (by decide) (by decide) (by decide +kernel) (show P_aw _ _ _ 13 [.ref 1, P_z 8] [P_z 2] _ _ from ?_)
  refine P_aw_goto P_i178_13 (show P_aw _ _ _ 17 [.ref 1, P_z 8] [P_z 2] _ _ from ?_)
  refine P_aw_end P_i178_17 rfl rfl (fun _ => rfl) rfl ?_
  show P_aw _ _ _ 22 [P_un, P_z 6, P_z 2] [P_z 2] _ _
  refine P_aw_op (L' := [P_un, P_z 6, P_z 2]) (st' := [P_z 2, P_z 2]) P_i81_22 rfl (show P_aw _ _ _ 23 [P_un, P_z 6, P_z 2] [P_z 2, P_z 2] _ _ from ?_)
  refine P_aw_ict P_i81_23 ⟨by decide, by decide⟩ ⟨by decide, by decide⟩ (P_ci_eqt (by omega)) (show P_aw _ _ _ 28 [P_un, P_z 6, P_z 2] [] _ _ from ?_)
  refine P_aw_op (L' := [P_un, P_z 6, P_z 3]) (st' := []) P_i81_28 (P_o_iincv (x := 2) rfl (by decide)) (show P_aw _ _ _ 31 [P_un, P_z 6, P_z 3] [] _ _ from ?_)
  refine P_aw_goto P_i81_31 (show P_aw _ _ _ 8 [P_un, P_z 6, P_z 3] [] _ _ from ?_)
  refine P_aw_op (L' := [P_un, P_z 6, P_z 3]) (st' := [P_z 3]) P_i81_8 rfl (show P_aw _ _ _ 9 [P_un, P_z 6, P_z 3] [P_z 3] _ _ from ?_)
  refine P_aw_op (L' := [P_un, P_z 6, P_z 3]) (st' := [P_z 3, P_z 3]) P_i81_9 rfl (show P_aw _ _ _ 10 [P_un, P_z 6, P_z 3] [P_z 3, P_z 3] _ _ from ?_)
  refine P_aw_ict P_i81_10 ⟨by decide, by decide⟩ ⟨by decide, by decide⟩ (P_ci_get (by omega)) (show P_aw _ _ _ 34 [P_un, P_z 6, P_z 3] [] _ _ from ?_)
  refine P_aw_op (L' := [P_un, P_z 6, P_z 3]) (st' := [P_z 1]) P_i81_34 rfl (show P_aw _ _ _ 35 [P_un, P_z 6, P_z 3] [P_z 1] _ _ from ?_)
  refine P_aw_end P_i81_35 rfl rfl (fun _ => rfl) rfl ?_
  show P_aw _ _ _ 24 [.ref (w.2.2 13), P_zl x.1, P_un, P_z x.2, P_z 6, P_un, P_un] [P_z 1] _ _
  refine P_aw_izt P_i80_24 ⟨by decide, by decide⟩ (P_ci_net (by omega)) (show P_aw _ _ _ 30 [.ref (w.2.2 13), P_zl x.1, P_un, P_z x.2, P_z 6, P_un, P_un] [] _ _ from ?_)
  refine P_aw_op (L' := [.ref (w.2.2 13), P_zl x.1, P_un, P_z x.2, P_z 6, P_un, P_un]) (st' := [.ref (w.2.2 13)]) P_i80_30 rfl (show P_aw _ _ _ 31 [.ref (w.2.2 13), P_zl x.1, P_un, P_z x.2, P_z 6, P_un, P_un] [.ref (w.2.2 13)] _ _ from ?_)
  refine P_aw_op (L' := [.ref (w.2.2 13), P_zl x.1, P_un, P_z x.2, P_z 6, P_un, P_un]) (st' := [P_z 6, .ref (w.2.2 13)]) P_i80_31 rfl (show P_aw _ _ _ 33 [.ref (w.2.2 13), P_zl x.1, P_un, P_z x.2, P_z 6, P_un, P_un] [P_z 6, .ref (w.2.2 13)] _ _ from ?_)
  refine P_aw_call P_i80_33 rfl rfl (fun _ => rfl) rfl rfl rfl rfl (y2 := 82) (as := [.ref (w.2.2 13), P_z 6]) (r0 := []) (P_inv_v (hw.2.1 13 (by decide)) (hw.s rfl) rfl rfl) (Nat.le_of_ble_eq_true rfl) (by decide) rfl (Nat.le_of_ble_eq_true rfl) (s_bi hw (by omega) hC hs ?_)
  show P_aw _ _ _ 36 [.ref (w.2.2 13), P_zl x.1, P_un, P_z x.2, P_z 6, P_un, P_un] [] _ _
  refine P_aw_op (L' := [.ref (w.2.2 13), P_zl x.1, P_un, P_z x.2, P_z 6, P_un, P_un]) (st' := [.ref (w.2.2 13)]) P_i80_36 rfl (show P_aw _ _ _ 37 [.ref (w.2.2 13), P_zl x.1, P_un, P_z x.2, P_z 6, P_un, P_un] [.ref (w.2.2 13)] _ _ from ?_)
  have hp2 := A_cst_rg (nv := nv) (sz := sz) (cL := cL) (cS := cS) (cR := cR) hA hs
  refine P_aw_call P_i80_37 rfl rfl (fun _ => rfl) rfl rfl rfl rfl (y2 := 67) (as := [.ref (w.2.2 13)]) (r0 := []) (P_inv_v (hw.2.1 13 (by decide)) (hw.s rfl) rfl rfl) (Nat.le_of_ble_eq_true rfl) (by decide) rfl (Nat.le_of_ble_eq_true rfl) (s_cost hw (A_V_bi (by omega) hA) (A_O_bi (by omega) hs (by omega)) (A_C_bi hC) ((A_bi_ne (by omega) (by omega)).trans hN) hn01 ?_)
  show P_aw _ _ _ 40 [.ref (w.2.2 13), P_zl x.1, P_un, P_z x.2, P_z 6, P_un, P_un] [P_zl ((A_cst rw vr nv 2 sz cL cS cR) 6)] _ _
  refine P_aw_op (L' := [.ref (w.2.2 13), P_zl x.1, P_un, P_z x.2, P_z 6, P_zl ((A_cst rw vr nv 2 sz cL cS cR) 6), P_un]) (st' := []) P_i80_40 rfl (show P_aw _ _ _ 42 [.ref (w.2.2 13), P_zl x.1, P_un, P_z x.2, P_z 6, P_zl ((A_cst rw vr nv 2 sz cL cS cR) 6), P_un] [] _ _ from ?_)
  refine P_aw_op (L' := [.ref (w.2.2 13), P_zl x.1, P_un, P_z x.2, P_z 6, P_zl ((A_cst rw vr nv 2 sz cL cS cR) 6), P_un]) (st' := [P_zl x.1]) P_i80_42 rfl (show P_aw _ _ _ 43 [.ref (w.2.2 13), P_zl x.1, P_un, P_z x.2, P_z 6, P_zl ((A_cst rw vr nv 2 sz cL cS cR) 6), P_un] [P_zl x.1] _ _ from ?_)
  refine P_aw_op (L' := [.ref (w.2.2 13), P_zl x.1, P_un, P_z x.2, P_z 6, P_zl ((A_cst rw vr nv 2 sz cL cS cR) 6), P_un]) (st' := [P_zl (-1), P_zl x.1]) P_i80_43 rfl (show P_aw _ _ _ 46 [.ref (w.2.2 13), P_zl x.1, P_un, P_z x.2, P_z 6, P_zl ((A_cst rw vr nv 2 sz cL cS cR) 6), P_un] [P_zl (-1), P_zl x.1] _ _ from ?_)
  by_cases hc3 : x.1 = (-1)
  · refine P_aw_lct P_i80_46 P_i80_47 ⟨by omega, by omega⟩ ⟨by decide, by decide⟩ (P_ci_eqt (by omega)) (show P_aw _ _ _ 57 [.ref (w.2.2 13), P_zl x.1, P_un, P_z x.2, P_z 6, P_zl ((A_cst rw vr nv 2 sz cL cS cR) 6), P_un] [] _ _ from ?_)
    refine P_aw_op (L' := [.ref (w.2.2 13), P_zl x.1, P_un, P_z x.2, P_z 6, P_zl ((A_cst rw vr nv 2 sz cL cS cR) 6), P_un]) (st' := [P_zl ((A_cst rw vr nv 2 sz cL cS cR) 6)]) P_i80_57 rfl (show P_aw _ _ _ 59 [.ref (w.2.2 13), P_zl x.1, P_un, P_z x.2, P_z 6, P_zl ((A_cst rw vr nv 2 sz cL cS cR) 6), P_un] [P_zl ((A_cst rw vr nv 2 sz cL cS cR) 6)] _ _ from ?_)
    refine P_aw_op (L' := [.ref (w.2.2 13), P_zl ((A_cst rw vr nv 2 sz cL cS cR) 6), P_un, P_z x.2, P_z 6, P_zl ((A_cst rw vr nv 2 sz cL cS cR) 6), P_un]) (st' := []) P_i80_59 rfl (show P_aw _ _ _ 60 [.ref (w.2.2 13), P_zl ((A_cst rw vr nv 2 sz cL cS cR) 6), P_un, P_z x.2, P_z 6, P_zl ((A_cst rw vr nv 2 sz cL cS cR) 6), P_un] [] _ _ from ?_)
    refine P_aw_op (L' := [.ref (w.2.2 13), P_zl ((A_cst rw vr nv 2 sz cL cS cR) 6), P_un, P_z x.2, P_z 6, P_zl ((A_cst rw vr nv 2 sz cL cS cR) 6), P_un]) (st' := [P_z 6]) P_i80_60 rfl (show P_aw _ _ _ 62 [.ref (w.2.2 13), P_zl ((A_cst rw vr nv 2 sz cL cS cR) 6), P_un, P_z x.2, P_z 6, P_zl ((A_cst rw vr nv 2 sz cL cS cR) 6), P_un] [P_z 6] _ _ from ?_)
    refine P_aw_op (L' := [.ref (w.2.2 13), P_zl ((A_cst rw vr nv 2 sz cL cS cR) 6), P_un, P_z 6, P_z 6, P_zl ((A_cst rw vr nv 2 sz cL cS cR) 6), P_un]) (st' := []) P_i80_62 rfl (show P_aw _ _ _ 63 [.ref (w.2.2 13), P_zl ((A_cst rw vr nv 2 sz cL cS cR) 6), P_un, P_z 6, P_z 6, P_zl ((A_cst rw vr nv 2 sz cL cS cR) 6), P_un] [] _ _ from ?_)
    refine P_aw_op (L' := [.ref (w.2.2 13), P_zl ((A_cst rw vr nv 2 sz cL cS cR) 6), P_un, P_z 6, P_z 9, P_zl ((A_cst rw vr nv 2 sz cL cS cR) 6), P_un]) (st' := []) P_i80_63 (P_o_iincv (x := 6) rfl (by decide)) (show P_aw _ _ _ 66 [.ref (w.2.2 13), P_zl ((A_cst rw vr nv 2 sz cL cS cR) 6), P_un, P_z 6, P_z 9, P_zl ((A_cst rw vr nv 2 sz cL cS cR) 6), P_un] [] _ _ from ?_)
    refine P_aw_goto P_i80_66 (show P_aw _ _ _ 9 [.ref (w.2.2 13), P_zl ((A_cst rw vr nv 2 sz cL cS cR) 6), P_un, P_z 6, P_z 9, P_un, P_un] [] _ _ from ?_)
    exact (by simp only [A_bt] at q; first | (rw [if_pos (by omega)] at q; exact q) | (rw [if_neg (by omega)] at q; exact q))
  · refine P_aw_lcf P_i80_46 P_i80_47 ⟨by omega, by omega⟩ ⟨by decide, by decide⟩ (P_ci_eqf (by omega)) (show P_aw _ _ _ 50 [.ref (w.2.2 13), P_zl x.1, P_un, P_z x.2, P_z 6, P_zl ((A_cst rw vr nv 2 sz cL cS cR) 6), P_un] [] _ _ from ?_)
    refine P_aw_op (L' := [.ref (w.2.2 13), P_zl x.1, P_un, P_z x.2, P_z 6, P_zl ((A_cst rw vr nv 2 sz cL cS cR) 6), P_un]) (st' := [P_zl ((A_cst rw vr nv 2 sz cL cS cR) 6)]) P_i80_50 rfl (show P_aw _ _ _ 52 [.ref (w.2.2 13), P_zl x.1, P_un, P_z x.2, P_z 6, P_zl ((A_cst rw vr nv 2 sz cL cS cR) 6), P_un] [P_zl ((A_cst rw vr nv 2 sz cL cS cR) 6)] _ _ from ?_)
    refine P_aw_op (L' := [.ref (w.2.2 13), P_zl x.1, P_un, P_z x.2, P_z 6, P_zl ((A_cst rw vr nv 2 sz cL cS cR) 6), P_un]) (st' := [P_zl x.1, P_zl ((A_cst rw vr nv 2 sz cL cS cR) 6)]) P_i80_52 rfl (show P_aw _ _ _ 53 [.ref (w.2.2 13), P_zl x.1, P_un, P_z x.2, P_z 6, P_zl ((A_cst rw vr nv 2 sz cL cS cR) 6), P_un] [P_zl x.1, P_zl ((A_cst rw vr nv 2 sz cL cS cR) 6)] _ _ from ?_)
    rcases Int.lt_or_le ((A_cst rw vr nv 2 sz cL cS cR) 6) x.1 with hc4 | hc4
    · refine P_aw_lcf P_i80_53 P_i80_54 ⟨by omega, by omega⟩ ⟨by omega, by omega⟩ (P_ci_gef (by omega)) (show P_aw _ _ _ 57 [.ref (w.2.2 13), P_zl x.1, P_un, P_z x.2, P_z 6, P_zl ((A_cst rw vr nv 2 sz cL cS cR) 6), P_un] [] _ _ from ?_)
      refine P_aw_op (L' := [.ref (w.2.2 13), P_zl x.1, P_un, P_z x.2, P_z 6, P_zl ((A_cst rw vr nv 2 sz cL cS cR) 6), P_un]) (st' := [P_zl ((A_cst rw vr nv 2 sz cL cS cR) 6)]) P_i80_57 rfl (show P_aw _ _ _ 59 [.ref (w.2.2 13), P_zl x.1, P_un, P_z x.2, P_z 6, P_zl ((A_cst rw vr nv 2 sz cL cS cR) 6), P_un] [P_zl ((A_cst rw vr nv 2 sz cL cS cR) 6)] _ _ from ?_)
      refine P_aw_op (L' := [.ref (w.2.2 13), P_zl ((A_cst rw vr nv 2 sz cL cS cR) 6), P_un, P_z x.2, P_z 6, P_zl ((A_cst rw vr nv 2 sz cL cS cR) 6), P_un]) (st' := []) P_i80_59 rfl (show P_aw _ _ _ 60 [.ref (w.2.2 13), P_zl ((A_cst rw vr nv 2 sz cL cS cR) 6), P_un, P_z x.2, P_z 6, P_zl ((A_cst rw vr nv 2 sz cL cS cR) 6), P_un] [] _ _ from ?_)
      refine P_aw_op (L' := [.ref (w.2.2 13), P_zl ((A_cst rw vr nv 2 sz cL cS cR) 6), P_un, P_z x.2, P_z 6, P_zl ((A_cst rw vr nv 2 sz cL cS cR) 6), P_un]) (st' := [P_z 6]) P_i80_60 rfl (show P_aw _ _ _ 62 [.ref (w.2.2 13), P_zl ((A_cst rw vr nv 2 sz cL cS cR) 6), P_un, P_z x.2, P_z 6, P_zl ((A_cst rw vr nv 2 sz cL cS cR) 6), P_un] [P_z 6] _ _ from ?_)
      refine P_aw_op (L' := [.ref (w.2.2 13), P_zl ((A_cst rw vr nv 2 sz cL cS cR) 6), P_un, P_z 6, P_z 6, P_zl ((A_cst rw vr nv 2 sz cL cS cR) 6), P_un]) (st' := []) P_i80_62 rfl (show P_aw _ _ _ 63 [.ref (w.2.2 13), P_zl ((A_cst rw vr nv 2 sz cL cS cR) 6), P_un, P_z 6, P_z 6, P_zl ((A_cst rw vr nv 2 sz cL cS cR) 6), P_un] [] _ _ from ?_)
      refine P_aw_op (L' := [.ref (w.2.2 13), P_zl ((A_cst rw vr nv 2 sz cL cS cR) 6), P_un, P_z 6, P_z 9, P_zl ((A_cst rw vr nv 2 sz cL cS cR) 6), P_un]) (st' := []) P_i80_63 (P_o_iincv (x := 6) rfl (by decide)) (show P_aw _ _ _ 66 [.ref (w.2.2 13), P_zl ((A_cst rw vr nv 2 sz cL cS cR) 6), P_un, P_z 6, P_z 9, P_zl ((A_cst rw vr nv 2 sz cL cS cR) 6), P_un] [] _ _ from ?_)
      refine P_aw_goto P_i80_66 (show P_aw _ _ _ 9 [.ref (w.2.2 13), P_zl ((A_cst rw vr nv 2 sz cL cS cR) 6), P_un, P_z 6, P_z 9, P_un, P_un] [] _ _ from ?_)
      exact (by simp only [A_bt] at q; first | (rw [if_pos (by omega)] at q; exact q) | (rw [if_neg (by omega)] at q; exact q))
    · refine P_aw_lct P_i80_53 P_i80_54 ⟨by omega, by omega⟩ ⟨by omega, by omega⟩ (P_ci_get (by omega)) (show P_aw _ _ _ 63 [.ref (w.2.2 13), P_zl x.1, P_un, P_z x.2, P_z 6, P_zl ((A_cst rw vr nv 2 sz cL cS cR) 6), P_un] [] _ _ from ?_)
      refine P_aw_op (L' := [.ref (w.2.2 13), P_zl x.1, P_un, P_z x.2, P_z 9, P_zl ((A_cst rw vr nv 2 sz cL cS cR) 6), P_un]) (st' := []) P_i80_63 (P_o_iincv (x := 6) rfl (by decide)) (show P_aw _ _ _ 66 [.ref (w.2.2 13), P_zl x.1, P_un, P_z x.2, P_z 9, P_zl ((A_cst rw vr nv 2 sz cL cS cR) 6), P_un] [] _ _ from ?_)
      refine P_aw_goto P_i80_66 (show P_aw _ _ _ 9 [.ref (w.2.2 13), P_zl x.1, P_un, P_z x.2, P_z 9, P_un, P_un] [] _ _ from ?_)
      exact (by simp only [A_bt] at q; first | (rw [if_pos (by omega)] at q; exact q) | (rw [if_neg (by omega)] at q; exact q))

theorem s_bt2_9 {w : P_Lw} (hw : P_Cw w) {d : Nat} {Q : P_R → P_A → Prop} {σ : P_A} {tb : Int → Nat} {rw : Int → Int} {vr : Int → Int → Int} (hA : A_V w σ 2 tb rw vr) {sz : Int} {cL cS cR cV : Int → Int} (hC : A_C σ 2 sz cL cS cR cV) {nv : Int} (hN : σ 13 5 = nv) (hn01 : 0 ≤ nv ∧ nv ≤ 1) {x : Int × Int} (hx : -1 ≤ x.1 ∧ x.1 ≤ 3000) (q : P_aw w (d + 8) 80 9 [.ref (w.2.2 13), P_zl x.1, P_un, P_z x.2, P_z 12, P_un, P_un] [] σ Q) : P_aw w (d + 8) 80 9 [.ref (w.2.2 13), P_zl x.1, P_un, P_z x.2, P_z 9, P_un, P_un] [] σ Q := by
  have hsz := hC.2.1
  refine P_aw_op (L' := [.ref (w.2.2 13), P_zl x.1, P_un, P_z x.2, P_z 9, P_un, P_un]) (st' := [P_z 9]) P_i80_9 rfl (show P_aw _ _ _ 11 [.ref (w.2.2 13), P_zl x.1, P_un, P_z x.2, P_z 9, P_un, P_un] [P_z 9] _ _ from ?_)
  refine P_aw_gst P_i80_11 (show P_aw _ _ _ 14 [.ref (w.2.2 13), P_zl x.1, P_un, P_z x.2, P_z 9, P_un, P_un] [.ref 1, P_z 9] _ _ from ?_)
  refine P_aw_olen P_i80_14 (show P_aw _ _ _ 15 [.ref (w.2.2 13), P_zl x.1, P_un, P_z x.2, P_z 9, P_un, P_un] [P_z 18, P_z 9] _ _ from ?_)
  refine P_aw_icf P_i80_15 ⟨by decide, by decide⟩ ⟨by decide, by decide⟩ (P_ci_gef (by omega)) (show P_aw _ _ _ 18 [.ref (w.2.2 13), P_zl x.1, P_un, P_z x.2, P_z 9, P_un, P_un] [] _ _ from ?_)
  refine P_aw_op (L' := [.ref (w.2.2 13), P_zl x.1, P_un, P_z x.2, P_z 9, P_un, P_un]) (st' := [.ref (w.2.2 13)]) P_i80_18 rfl (show P_aw _ _ _ 19 [.ref (w.2.2 13), P_zl x.1, P_un, P_z x.2, P_z 9, P_un, P_un] [.ref (w.2.2 13)] _ _ from ?_)
  refine P_aw_op (L' := [.ref (w.2.2 13), P_zl x.1, P_un, P_z x.2, P_z 9, P_un, P_un]) (st' := [P_z 9, .ref (w.2.2 13)]) P_i80_19 rfl (show P_aw _ _ _ 21 [.ref (w.2.2 13), P_zl x.1, P_un, P_z x.2, P_z 9, P_un, P_un] [P_z 9, .ref (w.2.2 13)] _ _ from ?_)
  refine P_aw_call P_i80_21 rfl rfl (fun _ => rfl) rfl rfl rfl rfl (y2 := 81) (as := [.ref (w.2.2 13), P_z 9]) (r0 := []) (P_inv_v (hw.2.1 13 (by decide)) (hw.s rfl) rfl rfl) (Nat.le_of_ble_eq_true rfl) (by decide) rfl (Nat.le_of_ble_eq_true rfl) (show P_aw _ _ _ 0 [.ref (w.2.2 13), P_z 9, P_un] [] _ _ from ?_)
  refine P_aw_op (L' := [.ref (w.2.2 13), P_z 9, P_un]) (st' := [.ref (w.2.2 13)]) P_i81_0 rfl (show P_aw _ _ _ 1 [.ref (w.2.2 13), P_z 9, P_un] [.ref (w.2.2 13)] _ _ from ?_)
  refine P_aw_getR P_i81_1 (hw.2.1 13 (by decide)) (hw.s rfl) rfl rfl (show P_aw _ _ _ 4 [.ref (w.2.2 13), P_z 9, P_un] [.ref (w.2.2 6)] _ _ from ?_)
  refine P_aw_call P_i81_4 rfl rfl (fun _ => rfl) rfl rfl rfl rfl (y2 := 30) (as := [.ref (w.2.2 6)]) (r0 := []) (P_inv_v (hw.2.1 6 (by decide)) (hw.s rfl) rfl rfl) (Nat.le_of_ble_eq_true rfl) (by decide) rfl (Nat.le_of_ble_eq_true rfl) (show P_aw _ _ _ 0 [.ref (w.2.2 6)] [] _ _ from ?_)
  refine P_aw_op (L' := [.ref (w.2.2 6)]) (st' := [.ref (w.2.2 6)]) P_i30_0 rfl (show P_aw _ _ _ 1 [.ref (w.2.2 6)] [.ref (w.2.2 6)] _ _ from ?_)
  have hg1 := hA.2.1
  refine P_aw_getv P_i30_1 (hw.2.1 6 (by decide)) (hw.s rfl) rfl rfl (hA.1) (show P_aw _ _ _ 4 [.ref (w.2.2 6)] [P_z 2] _ _ from ?_)
  refine P_aw_end P_i30_4 rfl rfl (fun _ => rfl) rfl ?_
  show P_aw _ _ _ 7 [.ref (w.2.2 13), P_z 9, P_un] [P_z 2] _ _
  refine P_aw_op (L' := [.ref (w.2.2 13), P_z 9, P_z 2]) (st' := []) P_i81_7 rfl (show P_aw _ _ _ 8 [P_un, P_z 9, P_z 2] [] _ _ from ?_)
  refine P_aw_op (L' := [P_un, P_z 9, P_z 2]) (st' := [P_z 2]) P_i81_8 rfl (show P_aw _ _ _ 9 [P_un, P_z 9, P_z 2] [P_z 2] _ _ from ?_)
  refine P_aw_op (L' := [P_un, P_z 9, P_z 2]) (st' := [P_z 3, P_z 2]) P_i81_9 rfl (show P_aw _ _ _ 10 [P_un, P_z 9, P_z 2] [P_z 3, P_z 2] _ _ from ?_)
  refine P_aw_icf P_i81_10 ⟨by decide, by decide⟩ ⟨by decide, by decide⟩ (P_ci_gef (by omega)) (show P_aw _ _ _ 13 [P_un, P_z 9, P_z 2] [] _ _ from ?_)
  refine P_aw_gst P_i81_13 (show P_aw _ _ _ 16 [P_un, P_z 9, P_z 2] [.ref 1] _ _ from ?_)
  refine P_aw_op (L' := [P_un, P_z 9, P_z 2]) (st' := [P_z 9, .ref 1]) P_i81_16 rfl (show P_aw _ _ _ 17 [P_un, P_z 9, P_z 2] [P_z 9, .ref 1] _ _ from ?_)
  refine P_aw_op (L' := [P_un, P_z 9, P_z 2]) (st' := [P_z 2, P_z 9, .ref 1]) P_i81_17 rfl (show P_aw _ _ _ 18 [P_un, P_z 9, P_z 2] [P_z 2, P_z 9, .ref 1] _ _ from ?_)
  refine P_aw_op (L' := [P_un, P_z 9, P_z 2]) (st' := [P_z 11, .ref 1]) P_i81_18 P_o_iadd (show P_aw _ _ _ 19 [P_un, P_z 9, P_z 2] [P_z 11, .ref 1] _ _ from ?_)
  refine P_aw_call P_i81_19 rfl rfl (fun _ => rfl) rfl rfl rfl rfl (y2 := 178) (as := [.ref 1, P_z 11]) (r0 := []) (fun _ _ => rfl) (Nat.le_of_ble_eq_true rfl) (by decide) rfl (Nat.le_of_ble_eq_true rfl) (show P_aw _ _ _ 0 [.ref 1, P_z 11] [] _ _ from ?_)
  refine P_aw_op (L' := [.ref 1, P_z 11]) (st' := [P_z 11]) P_i178_0 rfl (show P_aw _ _ _ 1 [.ref 1, P_z 11] [P_z 11] _ _ from ?_)
  refine P_aw_izf P_i178_1 ⟨by decide, by decide⟩ (P_ci_ltf (by omega)) (show P_aw _ _ _ 4 [.ref 1, P_z 11] [] _ _ from ?_)
  refine P_aw_op (L' := [.ref 1, P_z 11]) (st' := [P_z 11]) P_i178_4 rfl (show P_aw _ _ _ 5 [.ref 1, P_z 11] [P_z 11] _ _ from ?_)
  refine P_aw_op (L' := [.ref 1, P_z 11]) (st' := [.ref 1, P_z 11]) P_i178_5 rfl (show P_aw _ _ _ 6 [.ref 1, P_z 11] [.ref 1, P_z 11] _ _ from ?_)
  refine P_aw_olen P_i178_6 (show P_aw _ _ _ 7 [.ref 1, P_z 11] [P_z 18, P_z 11] _ _ from ?_)
  refine P_aw_icf P_i178_7 ⟨by decide, by decide⟩ ⟨by decide, by decide⟩ (P_ci_gef (by omega)) (show P_aw _ _ _ 10 [.ref 1, P_z 11] [] _ _ from ?_)
  refine P_aw_op (L' := [.ref 1, P_z 11]) (st' := [.ref 1]) P_i178_10 rfl (show P_aw _ _ _ 11 [.ref 1, P_z 11] [.ref 1] _ _ from ?_)
  refine P_aw_op (L' := [.ref 1, P_z 11]) (st' := [P_z 11, .ref 1]) P_i178_11 rfl (show P_aw _ _ _ 12 [.ref 1, P_z 11] [P_z 11, .ref 1] _ _ from ?_)
  refine P_aw_oald P_i178_12 (by decide) (by decide) (by decide +kernel) (show P_aw _ _ _ 13 [.ref 1, P_z 11] [P_z 0] _ _ from ?_)
  refine P_aw_goto P_i178_13 (show P_aw _ _ _ 17 [.ref 1, P_z 11] [P_z 0] _ _ from ?_)
  refine P_aw_end P_i178_17 rfl rfl (fun _ => rfl) rfl ?_
  show P_aw _ _ _ 22 [P_un, P_z 9, P_z 2] [P_z 0] _ _
  refine P_aw_op (L' := [P_un, P_z 9, P_z 2]) (st' := [P_z 2, P_z 0]) P_i81_22 rfl (show P_aw _ _ _ 23 [P_un, P_z 9, P_z 2] [P_z 2, P_z 0] _ _ from ?_)
  refine P_aw_icf P_i81_23 ⟨by decide, by decide⟩ ⟨by decide, by decide⟩ (P_ci_eqf (by omega)) (show P_aw _ _ _ 26 [P_un, P_z 9, P_z 2] [] _ _ from ?_)
  refine P_aw_op (L' := [P_un, P_z 9, P_z 2]) (st' := [P_z 0]) P_i81_26 rfl (show P_aw _ _ _ 27 [P_un, P_z 9, P_z 2] [P_z 0] _ _ from ?_)
  refine P_aw_end P_i81_27 rfl rfl (fun _ => rfl) rfl ?_
  show P_aw _ _ _ 24 [.ref (w.2.2 13), P_zl x.1, P_un, P_z x.2, P_z 9, P_un, P_un] [P_z 0] _ _
  refine P_aw_izf P_i80_24 ⟨by decide, by decide⟩ (P_ci_nef (by omega)) (show P_aw _ _ _ 27 [.ref (w.2.2 13), P_zl x.1, P_un, P_z x.2, P_z 9, P_un, P_un] [] _ _ from ?_)
  refine P_aw_goto P_i80_27 (show P_aw _ _ _ 63 [.ref (w.2.2 13), P_zl x.1, P_un, P_z x.2, P_z 9, P_un, P_un] [] _ _ from ?_)
  refine P_aw_op (L' := [.ref (w.2.2 13), P_zl x.1, P_un, P_z x.2, P_z 12, P_un, P_un]) (st' := []) P_i80_63 (P_o_iincv (x := 9) rfl (by decide)) (show P_aw _ _ _ 66 [.ref (w.2.2 13), P_zl x.1, P_un, P_z x.2, P_z 12, P_un, P_un] [] _ _ from ?_)
  refine P_aw_goto P_i80_66 (show P_aw _ _ _ 9 [.ref (w.2.2 13), P_zl x.1, P_un, P_z x.2, P_z 12, P_un, P_un] [] _ _ from ?_)
  exact q

theorem s_bt2_12 {w : P_Lw} (hw : P_Cw w) {d : Nat} {Q : P_R → P_A → Prop} {σ : P_A} {tb : Int → Nat} {rw : Int → Int} {vr : Int → Int → Int} (hA : A_V w σ 2 tb rw vr) {sz : Int} {cL cS cR cV : Int → Int} (hC : A_C σ 2 sz cL cS cR cV) {nv : Int} (hN : σ 13 5 = nv) (hn01 : 0 ≤ nv ∧ nv ≤ 1) {x : Int × Int} (hx : -1 ≤ x.1 ∧ x.1 ≤ 3000) (q : P_aw w (d + 8) 80 9 [.ref (w.2.2 13), P_zl x.1, P_un, P_z x.2, P_z 15, P_un, P_un] [] σ Q) : P_aw w (d + 8) 80 9 [.ref (w.2.2 13), P_zl x.1, P_un, P_z x.2, P_z 12, P_un, P_un] [] σ Q := by
  have hsz := hC.2.1
  refine P_aw_op (L' := [.ref (w.2.2 13), P_zl x.1, P_un, P_z x.2, P_z 12, P_un, P_un]) (st' := [P_z 12]) P_i80_9 rfl (show P_aw _ _ _ 11 [.ref (w.2.2 13), P_zl x.1, P_un, P_z x.2, P_z 12, P_un, P_un] [P_z 12] _ _ from ?_)
  refine P_aw_gst P_i80_11 (show P_aw _ _ _ 14 [.ref (w.2.2 13), P_zl x.1, P_un, P_z x.2, P_z 12, P_un, P_un] [.ref 1, P_z 12] _ _ from ?_)
  refine P_aw_olen P_i80_14 (show P_aw _ _ _ 15 [.ref (w.2.2 13), P_zl x.1, P_un, P_z x.2, P_z 12, P_un, P_un] [P_z 18, P_z 12] _ _ from ?_)
  refine P_aw_icf P_i80_15 ⟨by decide, by decide⟩ ⟨by decide, by decide⟩ (P_ci_gef (by omega)) (show P_aw _ _ _ 18 [.ref (w.2.2 13), P_zl x.1, P_un, P_z x.2, P_z 12, P_un, P_un] [] _ _ from ?_)
  refine P_aw_op (L' := [.ref (w.2.2 13), P_zl x.1, P_un, P_z x.2, P_z 12, P_un, P_un]) (st' := [.ref (w.2.2 13)]) P_i80_18 rfl (show P_aw _ _ _ 19 [.ref (w.2.2 13), P_zl x.1, P_un, P_z x.2, P_z 12, P_un, P_un] [.ref (w.2.2 13)] _ _ from ?_)
  refine P_aw_op (L' := [.ref (w.2.2 13), P_zl x.1, P_un, P_z x.2, P_z 12, P_un, P_un]) (st' := [P_z 12, .ref (w.2.2 13)]) P_i80_19 rfl (show P_aw _ _ _ 21 [.ref (w.2.2 13), P_zl x.1, P_un, P_z x.2, P_z 12, P_un, P_un] [P_z 12, .ref (w.2.2 13)] _ _ from ?_)
  refine P_aw_call P_i80_21 rfl rfl (fun _ => rfl) rfl rfl rfl rfl (y2 := 81) (as := [.ref (w.2.2 13), P_z 12]) (r0 := []) (P_inv_v (hw.2.1 13 (by decide)) (hw.s rfl) rfl rfl) (Nat.le_of_ble_eq_true rfl) (by decide) rfl (Nat.le_of_ble_eq_true rfl) (show P_aw _ _ _ 0 [.ref (w.2.2 13), P_z 12, P_un] [] _ _ from ?_)
  refine P_aw_op (L' := [.ref (w.2.2 13), P_z 12, P_un]) (st' := [.ref (w.2.2 13)]) P_i81_0 rfl (show P_aw _ _ _ 1 [.ref (w.2.2 13), P_z 12, P_un] [.ref (w.2.2 13)] _ _ from ?_)
  refine P_aw_getR P_i81_1 (hw.2.1 13 (by decide)) (hw.s rfl) rfl rfl (show P_aw _ _ _ 4 [.ref (w.2.2 13), P_z 12, P_un] [.ref (w.2.2 6)] _ _ from ?_)
  refine P_aw_call P_i81_4 rfl rfl (fun _ => rfl) rfl rfl rfl rfl (y2 := 30) (as := [.ref (w.2.2 6)]) (r0 := []) (P_inv_v (hw.2.1 6 (by decide)) (hw.s rfl) rfl rfl) (Nat.le_of_ble_eq_true rfl) (by decide) rfl (Nat.le_of_ble_eq_true rfl) (show P_aw _ _ _ 0 [.ref (w.2.2 6)] [] _ _ from ?_)
  refine P_aw_op (L' := [.ref (w.2.2 6)]) (st' := [.ref (w.2.2 6)]) P_i30_0 rfl (show P_aw _ _ _ 1 [.ref (w.2.2 6)] [.ref (w.2.2 6)] _ _ from ?_)
  have hg1 := hA.2.1
  refine P_aw_getv P_i30_1 (hw.2.1 6 (by decide)) (hw.s rfl) rfl rfl (hA.1) (show P_aw _ _ _ 4 [.ref (w.2.2 6)] [P_z 2] _ _ from ?_)
  refine P_aw_end P_i30_4 rfl rfl (fun _ => rfl) rfl ?_
  show P_aw _ _ _ 7 [.ref (w.2.2 13), P_z 12, P_un] [P_z 2] _ _
  refine P_aw_op (L' := [.ref (w.2.2 13), P_z 12, P_z 2]) (st' := []) P_i81_7 rfl (show P_aw _ _ _ 8 [P_un, P_z 12, P_z 2] [] _ _ from ?_)
  refine P_aw_op (L' := [P_un, P_z 12, P_z 2]) (st' := [P_z 2]) P_i81_8 rfl (show P_aw _ _ _ 9 [P_un, P_z 12, P_z 2] [P_z 2] _ _ from ?_)
  refine P_aw_op (L' := [P_un, P_z 12, P_z 2]) (st' := [P_z 3, P_z 2]) P_i81_9 rfl (show P_aw _ _ _ 10 [P_un, P_z 12, P_z 2] [P_z 3, P_z 2] _ _ from ?_)
  refine P_aw_icf P_i81_10 ⟨by decide, by decide⟩ ⟨by decide, by decide⟩ (P_ci_gef (by omega)) (show P_aw _ _ _ 13 [P_un, P_z 12, P_z 2] [] _ _ from ?_)
  refine P_aw_gst P_i81_13 (show P_aw _ _ _ 16 [P_un, P_z 12, P_z 2] [.ref 1] _ _ from ?_)
  refine P_aw_op (L' := [P_un, P_z 12, P_z 2]) (st' := [P_z 12, .ref 1]) P_i81_16 rfl (show P_aw _ _ _ 17 [P_un, P_z 12, P_z 2] [P_z 12, .ref 1] _ _ from ?_)
  refine P_aw_op (L' := [P_un, P_z 12, P_z 2]) (st' := [P_z 2, P_z 12, .ref 1]) P_i81_17 rfl (show P_aw _ _ _ 18 [P_un, P_z 12, P_z 2] [P_z 2, P_z 12, .ref 1] _ _ from ?_)
  refine P_aw_op (L' := [P_un, P_z 12, P_z 2]) (st' := [P_z 14, .ref 1]) P_i81_18 P_o_iadd (show P_aw _ _ _ 19 [P_un, P_z 12, P_z 2] [P_z 14, .ref 1] _ _ from ?_)
  refine P_aw_call P_i81_19 rfl rfl (fun _ => rfl) rfl rfl rfl rfl (y2 := 178) (as := [.ref 1, P_z 14]) (r0 := []) (fun _ _ => rfl) (Nat.le_of_ble_eq_true rfl) (by decide) rfl (Nat.le_of_ble_eq_true rfl) (show P_aw _ _ _ 0 [.ref 1, P_z 14] [] _ _ from ?_)
  refine P_aw_op (L' := [.ref 1, P_z 14]) (st' := [P_z 14]) P_i178_0 rfl (show P_aw _ _ _ 1 [.ref 1, P_z 14] [P_z 14] _ _ from ?_)
  refine P_aw_izf P_i178_1 ⟨by decide, by decide⟩ (P_ci_ltf (by omega)) (show P_aw _ _ _ 4 [.ref 1, P_z 14] [] _ _ from ?_)
  refine P_aw_op (L' := [.ref 1, P_z 14]) (st' := [P_z 14]) P_i178_4 rfl (show P_aw _ _ _ 5 [.ref 1, P_z 14] [P_z 14] _ _ from ?_)
  refine P_aw_op (L' := [.ref 1, P_z 14]) (st' := [.ref 1, P_z 14]) P_i178_5 rfl (show P_aw _ _ _ 6 [.ref 1, P_z 14] [.ref 1, P_z 14] _ _ from ?_)
  refine P_aw_olen P_i178_6 (show P_aw _ _ _ 7 [.ref 1, P_z 14] [P_z 18, P_z 14] _ _ from ?_)
  refine P_aw_icf P_i178_7 ⟨by decide, by decide⟩ ⟨by decide, by decide⟩ (P_ci_gef (by omega)) (show P_aw _ _ _ 10 [.ref 1, P_z 14] [] _ _ from ?_)
  refine P_aw_op (L' := [.ref 1, P_z 14]) (st' := [.ref 1]) P_i178_10 rfl (show P_aw _ _ _ 11 [.ref 1, P_z 14] [.ref 1] _ _ from ?_)
  refine P_aw_op (L' := [.ref 1, P_z 14]) (st' := [P_z 14, .ref 1]) P_i178_11 rfl (show P_aw _ _ _ 12 [.ref 1, P_z 14] [P_z 14, .ref 1] _ _ from ?_)
  refine P_aw_oald P_i178_12 (by decide) (by decide) (by decide +kernel) (show P_aw _ _ _ 13 [.ref 1, P_z 14] [P_z 1] _ _ from ?_)
  refine P_aw_goto P_i178_13 (show P_aw _ _ _ 17 [.ref 1, P_z 14] [P_z 1] _ _ from ?_)
  refine P_aw_end P_i178_17 rfl rfl (fun _ => rfl) rfl ?_
  show P_aw _ _ _ 22 [P_un, P_z 12, P_z 2] [P_z 1] _ _
  refine P_aw_op (L' := [P_un, P_z 12, P_z 2]) (st' := [P_z 2, P_z 1]) P_i81_22 rfl (show P_aw _ _ _ 23 [P_un, P_z 12, P_z 2] [P_z 2, P_z 1] _ _ from ?_)
  refine P_aw_icf P_i81_23 ⟨by decide, by decide⟩ ⟨by decide, by decide⟩ (P_ci_eqf (by omega)) (show P_aw _ _ _ 26 [P_un, P_z 12, P_z 2] [] _ _ from ?_)
  refine P_aw_op (L' := [P_un, P_z 12, P_z 2]) (st' := [P_z 0]) P_i81_26 rfl (show P_aw _ _ _ 27 [P_un, P_z 12, P_z 2] [P_z 0] _ _ from ?_)
  refine P_aw_end P_i81_27 rfl rfl (fun _ => rfl) rfl ?_
  show P_aw _ _ _ 24 [.ref (w.2.2 13), P_zl x.1, P_un, P_z x.2, P_z 12, P_un, P_un] [P_z 0] _ _
  refine P_aw_izf P_i80_24 ⟨by decide, by decide⟩ (P_ci_nef (by omega)) (show P_aw _ _ _ 27 [.ref (w.2.2 13), P_zl x.1, P_un, P_z x.2, P_z 12, P_un, P_un] [] _ _ from ?_)
  refine P_aw_goto P_i80_27 (show P_aw _ _ _ 63 [.ref (w.2.2 13), P_zl x.1, P_un, P_z x.2, P_z 12, P_un, P_un] [] _ _ from ?_)
  refine P_aw_op (L' := [.ref (w.2.2 13), P_zl x.1, P_un, P_z x.2, P_z 15, P_un, P_un]) (st' := []) P_i80_63 (P_o_iincv (x := 12) rfl (by decide)) (show P_aw _ _ _ 66 [.ref (w.2.2 13), P_zl x.1, P_un, P_z x.2, P_z 15, P_un, P_un] [] _ _ from ?_)
  refine P_aw_goto P_i80_66 (show P_aw _ _ _ 9 [.ref (w.2.2 13), P_zl x.1, P_un, P_z x.2, P_z 15, P_un, P_un] [] _ _ from ?_)
  exact q

theorem s_bt2_15 {w : P_Lw} (hw : P_Cw w) {d : Nat} {Q : P_R → P_A → Prop} {σ : P_A} {tb : Int → Nat} {rw : Int → Int} {vr : Int → Int → Int} (hA : A_V w σ 2 tb rw vr) {sz : Int} {cL cS cR cV : Int → Int} (hC : A_C σ 2 sz cL cS cR cV) {nv : Int} (hN : σ 13 5 = nv) (hn01 : 0 ≤ nv ∧ nv ≤ 1) {x : Int × Int} (hx : -1 ≤ x.1 ∧ x.1 ≤ 3000) (q : P_aw w (d + 8) 80 9 [.ref (w.2.2 13), P_zl x.1, P_un, P_z x.2, P_z 18, P_un, P_un] [] σ Q) : P_aw w (d + 8) 80 9 [.ref (w.2.2 13), P_zl x.1, P_un, P_z x.2, P_z 15, P_un, P_un] [] σ Q := by
  have hsz := hC.2.1
  refine P_aw_op (L' := [.ref (w.2.2 13), P_zl x.1, P_un, P_z x.2, P_z 15, P_un, P_un]) (st' := [P_z 15]) P_i80_9 rfl (show P_aw _ _ _ 11 [.ref (w.2.2 13), P_zl x.1, P_un, P_z x.2, P_z 15, P_un, P_un] [P_z 15] _ _ from ?_)
  refine P_aw_gst P_i80_11 (show P_aw _ _ _ 14 [.ref (w.2.2 13), P_zl x.1, P_un, P_z x.2, P_z 15, P_un, P_un] [.ref 1, P_z 15] _ _ from ?_)
  refine P_aw_olen P_i80_14 (show P_aw _ _ _ 15 [.ref (w.2.2 13), P_zl x.1, P_un, P_z x.2, P_z 15, P_un, P_un] [P_z 18, P_z 15] _ _ from ?_)
  refine P_aw_icf P_i80_15 ⟨by decide, by decide⟩ ⟨by decide, by decide⟩ (P_ci_gef (by omega)) (show P_aw _ _ _ 18 [.ref (w.2.2 13), P_zl x.1, P_un, P_z x.2, P_z 15, P_un, P_un] [] _ _ from ?_)
  refine P_aw_op (L' := [.ref (w.2.2 13), P_zl x.1, P_un, P_z x.2, P_z 15, P_un, P_un]) (st' := [.ref (w.2.2 13)]) P_i80_18 rfl (show P_aw _ _ _ 19 [.ref (w.2.2 13), P_zl x.1, P_un, P_z x.2, P_z 15, P_un, P_un] [.ref (w.2.2 13)] _ _ from ?_)
  refine P_aw_op (L' := [.ref (w.2.2 13), P_zl x.1, P_un, P_z x.2, P_z 15, P_un, P_un]) (st' := [P_z 15, .ref (w.2.2 13)]) P_i80_19 rfl (show P_aw _ _ _ 21 [.ref (w.2.2 13), P_zl x.1, P_un, P_z x.2, P_z 15, P_un, P_un] [P_z 15, .ref (w.2.2 13)] _ _ from ?_)
  refine P_aw_call P_i80_21 rfl rfl (fun _ => rfl) rfl rfl rfl rfl (y2 := 81) (as := [.ref (w.2.2 13), P_z 15]) (r0 := []) (P_inv_v (hw.2.1 13 (by decide)) (hw.s rfl) rfl rfl) (Nat.le_of_ble_eq_true rfl) (by decide) rfl (Nat.le_of_ble_eq_true rfl) (show P_aw _ _ _ 0 [.ref (w.2.2 13), P_z 15, P_un] [] _ _ from ?_)
  refine P_aw_op (L' := [.ref (w.2.2 13), P_z 15, P_un]) (st' := [.ref (w.2.2 13)]) P_i81_0 rfl (show P_aw _ _ _ 1 [.ref (w.2.2 13), P_z 15, P_un] [.ref (w.2.2 13)] _ _ from ?_)
  refine P_aw_getR P_i81_1 (hw.2.1 13 (by decide)) (hw.s rfl) rfl rfl (show P_aw _ _ _ 4 [.ref (w.2.2 13), P_z 15, P_un] [.ref (w.2.2 6)] _ _ from ?_)
  refine P_aw_call P_i81_4 rfl rfl (fun _ => rfl) rfl rfl rfl rfl (y2 := 30) (as := [.ref (w.2.2 6)]) (r0 := []) (P_inv_v (hw.2.1 6 (by decide)) (hw.s rfl) rfl rfl) (Nat.le_of_ble_eq_true rfl) (by decide) rfl (Nat.le_of_ble_eq_true rfl) (show P_aw _ _ _ 0 [.ref (w.2.2 6)] [] _ _ from ?_)
  refine P_aw_op (L' := [.ref (w.2.2 6)]) (st' := [.ref (w.2.2 6)]) P_i30_0 rfl (show P_aw _ _ _ 1 [.ref (w.2.2 6)] [.ref (w.2.2 6)] _ _ from ?_)
  have hg1 := hA.2.1
  refine P_aw_getv P_i30_1 (hw.2.1 6 (by decide)) (hw.s rfl) rfl rfl (hA.1) (show P_aw _ _ _ 4 [.ref (w.2.2 6)] [P_z 2] _ _ from ?_)
  refine P_aw_end P_i30_4 rfl rfl (fun _ => rfl) rfl ?_
  show P_aw _ _ _ 7 [.ref (w.2.2 13), P_z 15, P_un] [P_z 2] _ _
  refine P_aw_op (L' := [.ref (w.2.2 13), P_z 15, P_z 2]) (st' := []) P_i81_7 rfl (show P_aw _ _ _ 8 [P_un, P_z 15, P_z 2] [] _ _ from ?_)
  refine P_aw_op (L' := [P_un, P_z 15, P_z 2]) (st' := [P_z 2]) P_i81_8 rfl (show P_aw _ _ _ 9 [P_un, P_z 15, P_z 2] [P_z 2] _ _ from ?_)
  refine P_aw_op (L' := [P_un, P_z 15, P_z 2]) (st' := [P_z 3, P_z 2]) P_i81_9 rfl (show P_aw _ _ _ 10 [P_un, P_z 15, P_z 2] [P_z 3, P_z 2] _ _ from ?_)
  refine P_aw_icf P_i81_10 ⟨by decide, by decide⟩ ⟨by decide, by decide⟩ (P_ci_gef (by omega)) (show P_aw _ _ _ 13 [P_un, P_z 15, P_z 2] [] _ _ from ?_)
  refine P_aw_gst P_i81_13 (show P_aw _ _ _ 16 [P_un, P_z 15, P_z 2] [.ref 1] _ _ from ?_)
  refine P_aw_op (L' := [P_un, P_z 15, P_z 2]) (st' := [P_z 15, .ref 1]) P_i81_16 rfl (show P_aw _ _ _ 17 [P_un, P_z 15, P_z 2] [P_z 15, .ref 1] _ _ from ?_)
  refine P_aw_op (L' := [P_un, P_z 15, P_z 2]) (st' := [P_z 2, P_z 15, .ref 1]) P_i81_17 rfl (show P_aw _ _ _ 18 [P_un, P_z 15, P_z 2] [P_z 2, P_z 15, .ref 1] _ _ from ?_)
  refine P_aw_op (L' := [P_un, P_z 15, P_z 2]) (st' := [P_z 17, .ref 1]) P_i81_18 P_o_iadd (show P_aw _ _ _ 19 [P_un, P_z 15, P_z 2] [P_z 17, .ref 1] _ _ from ?_)
  refine P_aw_call P_i81_19 rfl rfl (fun _ => rfl) rfl rfl rfl rfl (y2 := 178) (as := [.ref 1, P_z 17]) (r0 := []) (fun _ _ => rfl) (Nat.le_of_ble_eq_true rfl) (by decide) rfl (Nat.le_of_ble_eq_true rfl) (show P_aw _ _ _ 0 [.ref 1, P_z 17] [] _ _ from ?_)
  refine P_aw_op (L' := [.ref 1, P_z 17]) (st' := [P_z 17]) P_i178_0 rfl (show P_aw _ _ _ 1 [.ref 1, P_z 17] [P_z 17] _ _ from ?_)
  refine P_aw_izf P_i178_1 ⟨by decide, by decide⟩ (P_ci_ltf (by omega)) (show P_aw _ _ _ 4 [.ref 1, P_z 17] [] _ _ from ?_)
  refine P_aw_op (L' := [.ref 1, P_z 17]) (st' := [P_z 17]) P_i178_4 rfl (show P_aw _ _ _ 5 [.ref 1, P_z 17] [P_z 17] _ _ from ?_)
  refine P_aw_op (L' := [.ref 1, P_z 17]) (st' := [.ref 1, P_z 17]) P_i178_5 rfl (show P_aw _ _ _ 6 [.ref 1, P_z 17] [.ref 1, P_z 17] _ _ from ?_)
  refine P_aw_olen P_i178_6 (show P_aw _ _ _ 7 [.ref 1, P_z 17] [P_z 18, P_z 17] _ _ from ?_)
  refine P_aw_icf P_i178_7 ⟨by decide, by decide⟩ ⟨by decide, by decide⟩ (P_ci_gef (by omega)) (show P_aw _ _ _ 10 [.ref 1, P_z 17] [] _ _ from ?_)
  refine P_aw_op (L' := [.ref 1, P_z 17]) (st' := [.ref 1]) P_i178_10 rfl (show P_aw _ _ _ 11 [.ref 1, P_z 17] [.ref 1] _ _ from ?_)
  refine P_aw_op (L' := [.ref 1, P_z 17]) (st' := [P_z 17, .ref 1]) P_i178_11 rfl (show P_aw _ _ _ 12 [.ref 1, P_z 17] [P_z 17, .ref 1] _ _ from ?_)
  refine P_aw_oald P_i178_12 (by decide) (by decide) (by decide +kernel) (show P_aw _ _ _ 13 [.ref 1, P_z 17] [P_z 0] _ _ from ?_)
  refine P_aw_goto P_i178_13 (show P_aw _ _ _ 17 [.ref 1, P_z 17] [P_z 0] _ _ from ?_)
  refine P_aw_end P_i178_17 rfl rfl (fun _ => rfl) rfl ?_
  show P_aw _ _ _ 22 [P_un, P_z 15, P_z 2] [P_z 0] _ _
  refine P_aw_op (L' := [P_un, P_z 15, P_z 2]) (st' := [P_z 2, P_z 0]) P_i81_22 rfl (show P_aw _ _ _ 23 [P_un, P_z 15, P_z 2] [P_z 2, P_z 0] _ _ from ?_)
  refine P_aw_icf P_i81_23 ⟨by decide, by decide⟩ ⟨by decide, by decide⟩ (P_ci_eqf (by omega)) (show P_aw _ _ _ 26 [P_un, P_z 15, P_z 2] [] _ _ from ?_)
  refine P_aw_op (L' := [P_un, P_z 15, P_z 2]) (st' := [P_z 0]) P_i81_26 rfl (show P_aw _ _ _ 27 [P_un, P_z 15, P_z 2] [P_z 0] _ _ from ?_)
  refine P_aw_end P_i81_27 rfl rfl (fun _ => rfl) rfl ?_
  show P_aw _ _ _ 24 [.ref (w.2.2 13), P_zl x.1, P_un, P_z x.2, P_z 15, P_un, P_un] [P_z 0] _ _
  refine P_aw_izf P_i80_24 ⟨by decide, by decide⟩ (P_ci_nef (by omega)) (show P_aw _ _ _ 27 [.ref (w.2.2 13), P_zl x.1, P_un, P_z x.2, P_z 15, P_un, P_un] [] _ _ from ?_)
  refine P_aw_goto P_i80_27 (show P_aw _ _ _ 63 [.ref (w.2.2 13), P_zl x.1, P_un, P_z x.2, P_z 15, P_un, P_un] [] _ _ from ?_)
  refine P_aw_op (L' := [.ref (w.2.2 13), P_zl x.1, P_un, P_z x.2, P_z 18, P_un, P_un]) (st' := []) P_i80_63 (P_o_iincv (x := 15) rfl (by decide)) (show P_aw _ _ _ 66 [.ref (w.2.2 13), P_zl x.1, P_un, P_z x.2, P_z 18, P_un, P_un] [] _ _ from ?_)
  refine P_aw_goto P_i80_66 (show P_aw _ _ _ 9 [.ref (w.2.2 13), P_zl x.1, P_un, P_z x.2, P_z 18, P_un, P_un] [] _ _ from ?_)
  exact q

theorem s_be2 {w : P_Lw} (hw : P_Cw w) {d : Nat} {Q : P_R → P_A → Prop} {σ : P_A} {tb : Int → Nat} {rw : Int → Int} {vr : Int → Int → Int} (hA : A_V w σ 2 tb rw vr) {sz : Int} {cL cS cR cV : Int → Int} (hC : A_C σ 2 sz cL cS cR cV) {nv : Int} (hN : σ 13 5 = nv) (hn01 : 0 ≤ nv ∧ nv ≤ 1) {x : Int × Int} (hx : -1 ≤ x.1 ∧ x.1 ≤ 3000) (hs : A_isO 2 x.2) (q : Q (.inl (some (P_zl x.1))) (A_bi σ x.2 sz cL cR)) : P_aw w (d + 8) 80 9 [.ref (w.2.2 13), P_zl x.1, P_un, P_z x.2, P_z 18, P_un, P_un] [] σ Q := by
  have hsz := hC.2.1
  refine P_aw_op (L' := [.ref (w.2.2 13), P_zl x.1, P_un, P_z x.2, P_z 18, P_un, P_un]) (st' := [P_z 18]) P_i80_9 rfl (show P_aw _ _ _ 11 [.ref (w.2.2 13), P_zl x.1, P_un, P_z x.2, P_z 18, P_un, P_un] [P_z 18] _ _ from ?_)
  refine P_aw_gst P_i80_11 (show P_aw _ _ _ 14 [.ref (w.2.2 13), P_zl x.1, P_un, P_z x.2, P_z 18, P_un, P_un] [.ref 1, P_z 18] _ _ from ?_)
  refine P_aw_olen P_i80_14 (show P_aw _ _ _ 15 [.ref (w.2.2 13), P_zl x.1, P_un, P_z x.2, P_z 18, P_un, P_un] [P_z 18, P_z 18] _ _ from ?_)
  refine P_aw_ict P_i80_15 ⟨by decide, by decide⟩ ⟨by decide, by decide⟩ (P_ci_get (by omega)) (show P_aw _ _ _ 69 [.ref (w.2.2 13), P_zl x.1, P_un, P_z x.2, P_z 18, P_un, P_un] [] _ _ from ?_)
  refine P_aw_op (L' := [.ref (w.2.2 13), P_zl x.1, P_un, P_z x.2, P_z 18, P_un, P_un]) (st' := [.ref (w.2.2 13)]) P_i80_69 rfl (show P_aw _ _ _ 70 [.ref (w.2.2 13), P_zl x.1, P_un, P_z x.2, P_z 18, P_un, P_un] [.ref (w.2.2 13)] _ _ from ?_)
  refine P_aw_op (L' := [.ref (w.2.2 13), P_zl x.1, P_un, P_z x.2, P_z 18, P_un, P_un]) (st' := [P_z x.2, .ref (w.2.2 13)]) P_i80_70 rfl (show P_aw _ _ _ 71 [.ref (w.2.2 13), P_zl x.1, P_un, P_z x.2, P_z 18, P_un, P_un] [P_z x.2, .ref (w.2.2 13)] _ _ from ?_)
  refine P_aw_call P_i80_71 rfl rfl (fun _ => rfl) rfl rfl rfl rfl (y2 := 82) (as := [.ref (w.2.2 13), P_z x.2]) (r0 := []) (P_inv_v (hw.2.1 13 (by decide)) (hw.s rfl) rfl rfl) (Nat.le_of_ble_eq_true rfl) (by decide) rfl (Nat.le_of_ble_eq_true rfl) (s_bi hw (by omega) hC hs ?_)
  show P_aw _ _ _ 74 [.ref (w.2.2 13), P_zl x.1, P_un, P_z x.2, P_z 18, P_un, P_un] [] _ _
  refine P_aw_op (L' := [.ref (w.2.2 13), P_zl x.1, P_un, P_z x.2, P_z 18, P_un, P_un]) (st' := [P_zl x.1]) P_i80_74 rfl (show P_aw _ _ _ 75 [.ref (w.2.2 13), P_zl x.1, P_un, P_z x.2, P_z 18, P_un, P_un] [P_zl x.1] _ _ from ?_)
  refine P_aw_end P_i80_75 rfl rfl (fun _ => rfl) rfl ?_
  exact q

theorem s_bt3_0 {w : P_Lw} (hw : P_Cw w) {d : Nat} {Q : P_R → P_A → Prop} {σ : P_A} {tb : Int → Nat} {rw : Int → Int} {vr : Int → Int → Int} (hA : A_V w σ 3 tb rw vr) {sz : Int} {cL cS cR cV : Int → Int} (hC : A_C σ 3 sz cL cS cR cV) {nv : Int} (hN : σ 13 5 = nv) (hn01 : 0 ≤ nv ∧ nv ≤ 1) {x : Int × Int} (hx : -1 ≤ x.1 ∧ x.1 ≤ 3000) (hs : A_isO 3 0) (q : P_aw w (d + 8) 80 9 [.ref (w.2.2 13), P_zl (A_bt (A_cst rw vr nv 3 sz cL cS cR) 0 x).1, P_un, P_z (A_bt (A_cst rw vr nv 3 sz cL cS cR) 0 x).2, P_z 3, P_un, P_un] [] (A_bi σ 0 sz cL cR) Q) : P_aw w (d + 8) 80 9 [.ref (w.2.2 13), P_zl x.1, P_un, P_z x.2, P_z 0, P_un, P_un] [] σ Q := by
  have hsz := hC.2.1
  refine P_aw_op (L' := [.ref (w.2.2 13), P_zl x.1, P_un, P_z x.2, P_z 0, P_un, P_un]) (st' := [P_z 0]) P_i80_9 rfl (show P_aw _ _ _ 11 [.ref (w.2.2 13), P_zl x.1, P_un, P_z x.2, P_z 0, P_un, P_un] [P_z 0] _ _ from ?_)
  refine P_aw_gst P_i80_11 (show P_aw _ _ _ 14 [.ref (w.2.2 13), P_zl x.1, P_un, P_z x.2, P_z 0, P_un, P_un] [.ref 1, P_z 0] _ _ from ?_)
  refine P_aw_olen P_i80_14 (show P_aw _ _ _ 15 [.ref (w.2.2 13), P_zl x.1, P_un, P_z x.2, P_z 0, P_un, P_un] [P_z 18, P_z 0] _ _ from ?_)
  refine P_aw_icf P_i80_15 ⟨by decide, by decide⟩ ⟨by decide, by decide⟩ (P_ci_gef (by omega)) (show P_aw _ _ _ 18 [.ref (w.2.2 13), P_zl x.1, P_un, P_z x.2, P_z 0, P_un, P_un] [] _ _ from ?_)
  refine P_aw_op (L' := [.ref (w.2.2 13), P_zl x.1, P_un, P_z x.2, P_z 0, P_un, P_un]) (st' := [.ref (w.2.2 13)]) P_i80_18 rfl (show P_aw _ _ _ 19 [.ref (w.2.2 13), P_zl x.1, P_un, P_z x.2, P_z 0, P_un, P_un] [.ref (w.2.2 13)] _ _ from ?_)
  refine P_aw_op (L' := [.ref (w.2.2 13), P_zl x.1, P_un, P_z x.2, P_z 0, P_un, P_un]) (st' := [P_z 0, .ref (w.2.2 13)]) P_i80_19 rfl (show P_aw _ _ _ 21 [.ref (w.2.2 13), P_zl x.1, P_un, P_z x.2, P_z 0, P_un, P_un] [P_z 0, .ref (w.2.2 13)] _ _ from ?_)
  refine P_aw_call P_i80_21 rfl rfl (fun _ => rfl) rfl rfl rfl rfl (y2 := 81) (as := [.ref (w.2.2 13), P_z 0]) (r0 := []) (P_inv_v (hw.2.1 13 (by decide)) (hw.s rfl) rfl rfl) (Nat.le_of_ble_eq_true rfl) (by decide) rfl (Nat.le_of_ble_eq_true rfl) (show P_aw _ _ _ 0 [.ref (w.2.2 13), P_z 0, P_un] [] _ _ from ?_)
  refine P_aw_op (L' := [.ref (w.2.2 13), P_z 0, P_un]) (st' := [.ref (w.2.2 13)]) P_i81_0 rfl (show P_aw _ _ _ 1 [.ref (w.2.2 13), P_z 0, P_un] [.ref (w.2.2 13)] _ _ from ?_)
  refine P_aw_getR P_i81_1 (hw.2.1 13 (by decide)) (hw.s rfl) rfl rfl (show P_aw _ _ _ 4 [.ref (w.2.2 13), P_z 0, P_un] [.ref (w.2.2 6)] _ _ from ?_)
  refine P_aw_call P_i81_4 rfl rfl (fun _ => rfl) rfl rfl rfl rfl (y2 := 30) (as := [.ref (w.2.2 6)]) (r0 := []) (P_inv_v (hw.2.1 6 (by decide)) (hw.s rfl) rfl rfl) (Nat.le_of_ble_eq_true rfl) (by decide) rfl (Nat.le_of_ble_eq_true rfl) (show P_aw _ _ _ 0 [.ref (w.2.2 6)] [] _ _ from ?_)
  refine P_aw_op (L' := [.ref (w.2.2 6)]) (st' := [.ref (w.2.2 6)]) P_i30_0 rfl (show P_aw _ _ _ 1 [.ref (w.2.2 6)] [.ref (w.2.2 6)] _ _ from ?_)
  have hg1 := hA.2.1
  refine P_aw_getv P_i30_1 (hw.2.1 6 (by decide)) (hw.s rfl) rfl rfl (hA.1) (show P_aw _ _ _ 4 [.ref (w.2.2 6)] [P_z 3] _ _ from ?_)
  refine P_aw_end P_i30_4 rfl rfl (fun _ => rfl) rfl ?_
  show P_aw _ _ _ 7 [.ref (w.2.2 13), P_z 0, P_un] [P_z 3] _ _
  refine P_aw_op (L' := [.ref (w.2.2 13), P_z 0, P_z 3]) (st' := []) P_i81_7 rfl (show P_aw _ _ _ 8 [P_un, P_z 0, P_z 3] [] _ _ from ?_)
  refine P_aw_op (L' := [P_un, P_z 0, P_z 3]) (st' := [P_z 3]) P_i81_8 rfl (show P_aw _ _ _ 9 [P_un, P_z 0, P_z 3] [P_z 3] _ _ from ?_)
  refine P_aw_op (L' := [P_un, P_z 0, P_z 3]) (st' := [P_z 3, P_z 3]) P_i81_9 rfl (show P_aw _ _ _ 10 [P_un, P_z 0, P_z 3] [P_z 3, P_z 3] _ _ from ?_)
  refine P_aw_ict P_i81_10 ⟨by decide, by decide⟩ ⟨by decide, by decide⟩ (P_ci_get (by omega)) (show P_aw _ _ _ 34 [P_un, P_z 0, P_z 3] [] _ _ from ?_)
  refine P_aw_op (L' := [P_un, P_z 0, P_z 3]) (st' := [P_z 1]) P_i81_34 rfl (show P_aw _ _ _ 35 [P_un, P_z 0, P_z 3] [P_z 1] _ _ from ?_)
  refine P_aw_end P_i81_35 rfl rfl (fun _ => rfl) rfl ?_
  show P_aw _ _ _ 24 [.ref (w.2.2 13), P_zl x.1, P_un, P_z x.2, P_z 0, P_un, P_un] [P_z 1] _ _
  refine P_aw_izt P_i80_24 ⟨by decide, by decide⟩ (P_ci_net (by omega)) (show P_aw _ _ _ 30 [.ref (w.2.2 13), P_zl x.1, P_un, P_z x.2, P_z 0, P_un, P_un] [] _ _ from ?_)
  refine P_aw_op (L' := [.ref (w.2.2 13), P_zl x.1, P_un, P_z x.2, P_z 0, P_un, P_un]) (st' := [.ref (w.2.2 13)]) P_i80_30 rfl (show P_aw _ _ _ 31 [.ref (w.2.2 13), P_zl x.1, P_un, P_z x.2, P_z 0, P_un, P_un] [.ref (w.2.2 13)] _ _ from ?_)
  refine P_aw_op (L' := [.ref (w.2.2 13), P_zl x.1, P_un, P_z x.2, P_z 0, P_un, P_un]) (st' := [P_z 0, .ref (w.2.2 13)]) P_i80_31 rfl (show P_aw _ _ _ 33 [.ref (w.2.2 13), P_zl x.1, P_un, P_z x.2, P_z 0, P_un, P_un] [P_z 0, .ref (w.2.2 13)] _ _ from ?_)
  refine P_aw_call P_i80_33 rfl rfl (fun _ => rfl) rfl rfl rfl rfl (y2 := 82) (as := [.ref (w.2.2 13), P_z 0]) (r0 := []) (P_inv_v (hw.2.1 13 (by decide)) (hw.s rfl) rfl rfl) (Nat.le_of_ble_eq_true rfl) (by decide) rfl (Nat.le_of_ble_eq_true rfl) (s_bi hw (by omega) hC hs ?_)
  show P_aw _ _ _ 36 [.ref (w.2.2 13), P_zl x.1, P_un, P_z x.2, P_z 0, P_un, P_un] [] _ _
  refine P_aw_op (L' := [.ref (w.2.2 13), P_zl x.1, P_un, P_z x.2, P_z 0, P_un, P_un]) (st' := [.ref (w.2.2 13)]) P_i80_36 rfl (show P_aw _ _ _ 37 [.ref (w.2.2 13), P_zl x.1, P_un, P_z x.2, P_z 0, P_un, P_un] [.ref (w.2.2 13)] _ _ from ?_)
  have hp2 := A_cst_rg (nv := nv) (sz := sz) (cL := cL) (cS := cS) (cR := cR) hA hs
  refine P_aw_call P_i80_37 rfl rfl (fun _ => rfl) rfl rfl rfl rfl (y2 := 67) (as := [.ref (w.2.2 13)]) (r0 := []) (P_inv_v (hw.2.1 13 (by decide)) (hw.s rfl) rfl rfl) (Nat.le_of_ble_eq_true rfl) (by decide) rfl (Nat.le_of_ble_eq_true rfl) (s_cost hw (A_V_bi (by omega) hA) (A_O_bi (by omega) hs (by omega)) (A_C_bi hC) ((A_bi_ne (by omega) (by omega)).trans hN) hn01 ?_)
  show P_aw _ _ _ 40 [.ref (w.2.2 13), P_zl x.1, P_un, P_z x.2, P_z 0, P_un, P_un] [P_zl ((A_cst rw vr nv 3 sz cL cS cR) 0)] _ _
  refine P_aw_op (L' := [.ref (w.2.2 13), P_zl x.1, P_un, P_z x.2, P_z 0, P_zl ((A_cst rw vr nv 3 sz cL cS cR) 0), P_un]) (st' := []) P_i80_40 rfl (show P_aw _ _ _ 42 [.ref (w.2.2 13), P_zl x.1, P_un, P_z x.2, P_z 0, P_zl ((A_cst rw vr nv 3 sz cL cS cR) 0), P_un] [] _ _ from ?_)
  refine P_aw_op (L' := [.ref (w.2.2 13), P_zl x.1, P_un, P_z x.2, P_z 0, P_zl ((A_cst rw vr nv 3 sz cL cS cR) 0), P_un]) (st' := [P_zl x.1]) P_i80_42 rfl (show P_aw _ _ _ 43 [.ref (w.2.2 13), P_zl x.1, P_un, P_z x.2, P_z 0, P_zl ((A_cst rw vr nv 3 sz cL cS cR) 0), P_un] [P_zl x.1] _ _ from ?_)
  refine P_aw_op (L' := [.ref (w.2.2 13), P_zl x.1, P_un, P_z x.2, P_z 0, P_zl ((A_cst rw vr nv 3 sz cL cS cR) 0), P_un]) (st' := [P_zl (-1), P_zl x.1]) P_i80_43 rfl (show P_aw _ _ _ 46 [.ref (w.2.2 13), P_zl x.1, P_un, P_z x.2, P_z 0, P_zl ((A_cst rw vr nv 3 sz cL cS cR) 0), P_un] [P_zl (-1), P_zl x.1] _ _ from ?_)
  by_cases hc3 : x.1 = (-1)
  · refine P_aw_lct P_i80_46 P_i80_47 ⟨by omega, by omega⟩ ⟨by decide, by decide⟩ (P_ci_eqt (by omega)) (show P_aw _ _ _ 57 [.ref (w.2.2 13), P_zl x.1, P_un, P_z x.2, P_z 0, P_zl ((A_cst rw vr nv 3 sz cL cS cR) 0), P_un] [] _ _ from ?_)
    refine P_aw_op (L' := [.ref (w.2.2 13), P_zl x.1, P_un, P_z x.2, P_z 0, P_zl ((A_cst rw vr nv 3 sz cL cS cR) 0), P_un]) (st' := [P_zl ((A_cst rw vr nv 3 sz cL cS cR) 0)]) P_i80_57 rfl (show P_aw _ _ _ 59 [.ref (w.2.2 13), P_zl x.1, P_un, P_z x.2, P_z 0, P_zl ((A_cst rw vr nv 3 sz cL cS cR) 0), P_un] [P_zl ((A_cst rw vr nv 3 sz cL cS cR) 0)] _ _ from ?_)
    refine P_aw_op (L' := [.ref (w.2.2 13), P_zl ((A_cst rw vr nv 3 sz cL cS cR) 0), P_un, P_z x.2, P_z 0, P_zl ((A_cst rw vr nv 3 sz cL cS cR) 0), P_un]) (st' := []) P_i80_59 rfl (show P_aw _ _ _ 60 [.ref (w.2.2 13), P_zl ((A_cst rw vr nv 3 sz cL cS cR) 0), P_un, P_z x.2, P_z 0, P_zl ((A_cst rw vr nv 3 sz cL cS cR) 0), P_un] [] _ _ from ?_)
    refine P_aw_op (L' := [.ref (w.2.2 13), P_zl ((A_cst rw vr nv 3 sz cL cS cR) 0), P_un, P_z x.2, P_z 0, P_zl ((A_cst rw vr nv 3 sz cL cS cR) 0), P_un]) (st' := [P_z 0]) P_i80_60 rfl (show P_aw _ _ _ 62 [.ref (w.2.2 13), P_zl ((A_cst rw vr nv 3 sz cL cS cR) 0), P_un, P_z x.2, P_z 0, P_zl ((A_cst rw vr nv 3 sz cL cS cR) 0), P_un] [P_z 0] _ _ from ?_)
    refine P_aw_op (L' := [.ref (w.2.2 13), P_zl ((A_cst rw vr nv 3 sz cL cS cR) 0), P_un, P_z 0, P_z 0, P_zl ((A_cst rw vr nv 3 sz cL cS cR) 0), P_un]) (st' := []) P_i80_62 rfl (show P_aw _ _ _ 63 [.ref (w.2.2 13), P_zl ((A_cst rw vr nv 3 sz cL cS cR) 0), P_un, P_z 0, P_z 0, P_zl ((A_cst rw vr nv 3 sz cL cS cR) 0), P_un] [] _ _ from ?_)
    refine P_aw_op (L' := [.ref (w.2.2 13), P_zl ((A_cst rw vr nv 3 sz cL cS cR) 0), P_un, P_z 0, P_z 3, P_zl ((A_cst rw vr nv 3 sz cL cS cR) 0), P_un]) (st' := []) P_i80_63 (P_o_iincv (x := 0) rfl (by decide)) (show P_aw _ _ _ 66 [.ref (w.2.2 13), P_zl ((A_cst rw vr nv 3 sz cL cS cR) 0), P_un, P_z 0, P_z 3, P_zl ((A_cst rw vr nv 3 sz cL cS cR) 0), P_un] [] _ _ from ?_)
    refine P_aw_goto P_i80_66 (show P_aw _ _ _ 9 [.ref (w.2.2 13), P_zl ((A_cst rw vr nv 3 sz cL cS cR) 0), P_un, P_z 0, P_z 3, P_un, P_un] [] _ _ from ?_)
    exact (by simp only [A_bt] at q; first | (rw [if_pos (by omega)] at q; exact q) | (rw [if_neg (by omega)] at q; exact q))
  · refine P_aw_lcf P_i80_46 P_i80_47 ⟨by omega, by omega⟩ ⟨by decide, by decide⟩ (P_ci_eqf (by omega)) (show P_aw _ _ _ 50 [.ref (w.2.2 13), P_zl x.1, P_un, P_z x.2, P_z 0, P_zl ((A_cst rw vr nv 3 sz cL cS cR) 0), P_un] [] _ _ from ?_)
    refine P_aw_op (L' := [.ref (w.2.2 13), P_zl x.1, P_un, P_z x.2, P_z 0, P_zl ((A_cst rw vr nv 3 sz cL cS cR) 0), P_un]) (st' := [P_zl ((A_cst rw vr nv 3 sz cL cS cR) 0)]) P_i80_50 rfl (show P_aw _ _ _ 52 [.ref (w.2.2 13), P_zl x.1, P_un, P_z x.2, P_z 0, P_zl ((A_cst rw vr nv 3 sz cL cS cR) 0), P_un] [P_zl ((A_cst rw vr nv 3 sz cL cS cR) 0)] _ _ from ?_)
    refine P_aw_op (L' := [.ref (w.2.2 13), P_zl x.1, P_un, P_z x.2, P_z 0, P_zl ((A_cst rw vr nv 3 sz cL cS cR) 0), P_un]) (st' := [P_zl x.1, P_zl ((A_cst rw vr nv 3 sz cL cS cR) 0)]) P_i80_52 rfl (show P_aw _ _ _ 53 [.ref (w.2.2 13), P_zl x.1, P_un, P_z x.2, P_z 0, P_zl ((A_cst rw vr nv 3 sz cL cS cR) 0), P_un] [P_zl x.1, P_zl ((A_cst rw vr nv 3 sz cL cS cR) 0)] _ _ from ?_)
    rcases Int.lt_or_le ((A_cst rw vr nv 3 sz cL cS cR) 0) x.1 with hc4 | hc4
    · refine P_aw_lcf P_i80_53 P_i80_54 ⟨by omega, by omega⟩ ⟨by omega, by omega⟩ (P_ci_gef (by omega)) (show P_aw _ _ _ 57 [.ref (w.2.2 13), P_zl x.1, P_un, P_z x.2, P_z 0, P_zl ((A_cst rw vr nv 3 sz cL cS cR) 0), P_un] [] _ _ from ?_)
      refine P_aw_op (L' := [.ref (w.2.2 13), P_zl x.1, P_un, P_z x.2, P_z 0, P_zl ((A_cst rw vr nv 3 sz cL cS cR) 0), P_un]) (st' := [P_zl ((A_cst rw vr nv 3 sz cL cS cR) 0)]) P_i80_57 rfl (show P_aw _ _ _ 59 [.ref (w.2.2 13), P_zl x.1, P_un, P_z x.2, P_z 0, P_zl ((A_cst rw vr nv 3 sz cL cS cR) 0), P_un] [P_zl ((A_cst rw vr nv 3 sz cL cS cR) 0)] _ _ from ?_)
      refine P_aw_op (L' := [.ref (w.2.2 13), P_zl ((A_cst rw vr nv 3 sz cL cS cR) 0), P_un, P_z x.2, P_z 0, P_zl ((A_cst rw vr nv 3 sz cL cS cR) 0), P_un]) (st' := []) P_i80_59 rfl (show P_aw _ _ _ 60 [.ref (w.2.2 13), P_zl ((A_cst rw vr nv 3 sz cL cS cR) 0), P_un, P_z x.2, P_z 0, P_zl ((A_cst rw vr nv 3 sz cL cS cR) 0), P_un] [] _ _ from ?_)
      refine P_aw_op (L' := [.ref (w.2.2 13), P_zl ((A_cst rw vr nv 3 sz cL cS cR) 0), P_un, P_z x.2, P_z 0, P_zl ((A_cst rw vr nv 3 sz cL cS cR) 0), P_un]) (st' := [P_z 0]) P_i80_60 rfl (show P_aw _ _ _ 62 [.ref (w.2.2 13), P_zl ((A_cst rw vr nv 3 sz cL cS cR) 0), P_un, P_z x.2, P_z 0, P_zl ((A_cst rw vr nv 3 sz cL cS cR) 0), P_un] [P_z 0] _ _ from ?_)
      refine P_aw_op (L' := [.ref (w.2.2 13), P_zl ((A_cst rw vr nv 3 sz cL cS cR) 0), P_un, P_z 0, P_z 0, P_zl ((A_cst rw vr nv 3 sz cL cS cR) 0), P_un]) (st' := []) P_i80_62 rfl (show P_aw _ _ _ 63 [.ref (w.2.2 13), P_zl ((A_cst rw vr nv 3 sz cL cS cR) 0), P_un, P_z 0, P_z 0, P_zl ((A_cst rw vr nv 3 sz cL cS cR) 0), P_un] [] _ _ from ?_)
      refine P_aw_op (L' := [.ref (w.2.2 13), P_zl ((A_cst rw vr nv 3 sz cL cS cR) 0), P_un, P_z 0, P_z 3, P_zl ((A_cst rw vr nv 3 sz cL cS cR) 0), P_un]) (st' := []) P_i80_63 (P_o_iincv (x := 0) rfl (by decide)) (show P_aw _ _ _ 66 [.ref (w.2.2 13), P_zl ((A_cst rw vr nv 3 sz cL cS cR) 0), P_un, P_z 0, P_z 3, P_zl ((A_cst rw vr nv 3 sz cL cS cR) 0), P_un] [] _ _ from ?_)
      refine P_aw_goto P_i80_66 (show P_aw _ _ _ 9 [.ref (w.2.2 13), P_zl ((A_cst rw vr nv 3 sz cL cS cR) 0), P_un, P_z 0, P_z 3, P_un, P_un] [] _ _ from ?_)
      exact (by simp only [A_bt] at q; first | (rw [if_pos (by omega)] at q; exact q) | (rw [if_neg (by omega)] at q; exact q))
    · refine P_aw_lct P_i80_53 P_i80_54 ⟨by omega, by omega⟩ ⟨by omega, by omega⟩ (P_ci_get (by omega)) (show P_aw _ _ _ 63 [.ref (w.2.2 13), P_zl x.1, P_un, P_z x.2, P_z 0, P_zl ((A_cst rw vr nv 3 sz cL cS cR) 0), P_un] [] _ _ from ?_)
      refine P_aw_op (L' := [.ref (w.2.2 13), P_zl x.1, P_un, P_z x.2, P_z 3, P_zl ((A_cst rw vr nv 3 sz cL cS cR) 0), P_un]) (st' := []) P_i80_63 (P_o_iincv (x := 0) rfl (by decide)) (show P_aw _ _ _ 66 [.ref (w.2.2 13), P_zl x.1, P_un, P_z x.2, P_z 3, P_zl ((A_cst rw vr nv 3 sz cL cS cR) 0), P_un] [] _ _ from ?_)
      refine P_aw_goto P_i80_66 (show P_aw _ _ _ 9 [.ref (w.2.2 13), P_zl x.1, P_un, P_z x.2, P_z 3, P_un, P_un] [] _ _ from ?_)
      exact (by simp only [A_bt] at q; first | (rw [if_pos (by omega)] at q; exact q) | (rw [if_neg (by omega)] at q; exact q))

theorem s_bt3_3 {w : P_Lw} (hw : P_Cw w) {d : Nat} {Q : P_R → P_A → Prop} {σ : P_A} {tb : Int → Nat} {rw : Int → Int} {vr : Int → Int → Int} (hA : A_V w σ 3 tb rw vr) {sz : Int} {cL cS cR cV : Int → Int} (hC : A_C σ 3 sz cL cS cR cV) {nv : Int} (hN : σ 13 5 = nv) (hn01 : 0 ≤ nv ∧ nv ≤ 1) {x : Int × Int} (hx : -1 ≤ x.1 ∧ x.1 ≤ 3000) (hs : A_isO 3 3) (q : P_aw w (d + 8) 80 9 [.ref (w.2.2 13), P_zl (A_bt (A_cst rw vr nv 3 sz cL cS cR) 3 x).1, P_un, P_z (A_bt (A_cst rw vr nv 3 sz cL cS cR) 3 x).2, P_z 6, P_un, P_un] [] (A_bi σ 3 sz cL cR) Q) : P_aw w (d + 8) 80 9 [.ref (w.2.2 13), P_zl x.1, P_un, P_z x.2, P_z 3, P_un, P_un] [] σ Q := by
  have hsz := hC.2.1
  refine P_aw_op (L' := [.ref (w.2.2 13), P_zl x.1, P_un, P_z x.2, P_z 3, P_un, P_un]) (st' := [P_z 3]) P_i80_9 rfl (show P_aw _ _ _ 11 [.ref (w.2.2 13), P_zl x.1, P_un, P_z x.2, P_z 3, P_un, P_un] [P_z 3] _ _ from ?_)
  refine P_aw_gst P_i80_11 (show P_aw _ _ _ 14 [.ref (w.2.2 13), P_zl x.1, P_un, P_z x.2, P_z 3, P_un, P_un] [.ref 1, P_z 3] _ _ from ?_)
  refine P_aw_olen P_i80_14 (show P_aw _ _ _ 15 [.ref (w.2.2 13), P_zl x.1, P_un, P_z x.2, P_z 3, P_un, P_un] [P_z 18, P_z 3] _ _ from ?_)
  refine P_aw_icf P_i80_15 ⟨by decide, by decide⟩ ⟨by decide, by decide⟩ (P_ci_gef (by omega)) (show P_aw _ _ _ 18 [.ref (w.2.2 13), P_zl x.1, P_un, P_z x.2, P_z 3, P_un, P_un] [] _ _ from ?_)
  refine P_aw_op (L' := [.ref (w.2.2 13), P_zl x.1, P_un, P_z x.2, P_z 3, P_un, P_un]) (st' := [.ref (w.2.2 13)]) P_i80_18 rfl (show P_aw _ _ _ 19 [.ref (w.2.2 13), P_zl x.1, P_un, P_z x.2, P_z 3, P_un, P_un] [.ref (w.2.2 13)] _ _ from ?_)
  refine P_aw_op (L' := [.ref (w.2.2 13), P_zl x.1, P_un, P_z x.2, P_z 3, P_un, P_un]) (st' := [P_z 3, .ref (w.2.2 13)]) P_i80_19 rfl (show P_aw _ _ _ 21 [.ref (w.2.2 13), P_zl x.1, P_un, P_z x.2, P_z 3, P_un, P_un] [P_z 3, .ref (w.2.2 13)] _ _ from ?_)
  refine P_aw_call P_i80_21 rfl rfl (fun _ => rfl) rfl rfl rfl rfl (y2 := 81) (as := [.ref (w.2.2 13), P_z 3]) (r0 := []) (P_inv_v (hw.2.1 13 (by decide)) (hw.s rfl) rfl rfl) (Nat.le_of_ble_eq_true rfl) (by decide) rfl (Nat.le_of_ble_eq_true rfl) (show P_aw _ _ _ 0 [.ref (w.2.2 13), P_z 3, P_un] [] _ _ from ?_)
  refine P_aw_op (L' := [.ref (w.2.2 13), P_z 3, P_un]) (st' := [.ref (w.2.2 13)]) P_i81_0 rfl (show P_aw _ _ _ 1 [.ref (w.2.2 13), P_z 3, P_un] [.ref (w.2.2 13)] _ _ from ?_)
  refine P_aw_getR P_i81_1 (hw.2.1 13 (by decide)) (hw.s rfl) rfl rfl (show P_aw _ _ _ 4 [.ref (w.2.2 13), P_z 3, P_un] [.ref (w.2.2 6)] _ _ from ?_)
  refine P_aw_call P_i81_4 rfl rfl (fun _ => rfl) rfl rfl rfl rfl (y2 := 30) (as := [.ref (w.2.2 6)]) (r0 := []) (P_inv_v (hw.2.1 6 (by decide)) (hw.s rfl) rfl rfl) (Nat.le_of_ble_eq_true rfl) (by decide) rfl (Nat.le_of_ble_eq_true rfl) (show P_aw _ _ _ 0 [.ref (w.2.2 6)] [] _ _ from ?_)
  refine P_aw_op (L' := [.ref (w.2.2 6)]) (st' := [.ref (w.2.2 6)]) P_i30_0 rfl (show P_aw _ _ _ 1 [.ref (w.2.2 6)] [.ref (w.2.2 6)] _ _ from ?_)
  have hg1 := hA.2.1
  refine P_aw_getv P_i30_1 (hw.2.1 6 (by decide)) (hw.s rfl) rfl rfl (hA.1) (show P_aw _ _ _ 4 [.ref (w.2.2 6)] [P_z 3] _ _ from ?_)
  refine P_aw_end P_i30_4 rfl rfl (fun _ => rfl) rfl ?_
  show P_aw _ _ _ 7 [.ref (w.2.2 13), P_z 3, P_un] [P_z 3] _ _
  refine P_aw_op (L' := [.ref (w.2.2 13), P_z 3, P_z 3]) (st' := []) P_i81_7 rfl (show P_aw _ _ _ 8 [P_un, P_z 3, P_z 3] [] _ _ from ?_)
  refine P_aw_op (L' := [P_un, P_z 3, P_z 3]) (st' := [P_z 3]) P_i81_8 rfl (show P_aw _ _ _ 9 [P_un, P_z 3, P_z 3] [P_z 3] _ _ from ?_)
  refine P_aw_op (L' := [P_un, P_z 3, P_z 3]) (st' := [P_z 3, P_z 3]) P_i81_9 rfl (show P_aw _ _ _ 10 [P_un, P_z 3, P_z 3] [P_z 3, P_z 3] _ _ from ?_)
  refine P_aw_ict P_i81_10 ⟨by decide, by decide⟩ ⟨by decide, by decide⟩ (P_ci_get (by omega)) (show P_aw _ _ _ 34 [P_un, P_z 3, P_z 3] [] _ _ from ?_)
  refine P_aw_op (L' := [P_un, P_z 3, P_z 3]) (st' := [P_z 1]) P_i81_34 rfl (show P_aw _ _ _ 35 [P_un, P_z 3, P_z 3] [P_z 1] _ _ from ?_)
  refine P_aw_end P_i81_35 rfl rfl (fun _ => rfl) rfl ?_
  show P_aw _ _ _ 24 [.ref (w.2.2 13), P_zl x.1, P_un, P_z x.2, P_z 3, P_un, P_un] [P_z 1] _ _
  refine P_aw_izt P_i80_24 ⟨by decide, by decide⟩ (P_ci_net (by omega)) (show P_aw _ _ _ 30 [.ref (w.2.2 13), P_zl x.1, P_un, P_z x.2, P_z 3, P_un, P_un] [] _ _ from ?_)
  refine P_aw_op (L' := [.ref (w.2.2 13), P_zl x.1, P_un, P_z x.2, P_z 3, P_un, P_un]) (st' := [.ref (w.2.2 13)]) P_i80_30 rfl (show P_aw _ _ _ 31 [.ref (w.2.2 13), P_zl x.1, P_un, P_z x.2, P_z 3, P_un, P_un] [.ref (w.2.2 13)] _ _ from ?_)
  refine P_aw_op (L' := [.ref (w.2.2 13), P_zl x.1, P_un, P_z x.2, P_z 3, P_un, P_un]) (st' := [P_z 3, .ref (w.2.2 13)]) P_i80_31 rfl (show P_aw _ _ _ 33 [.ref (w.2.2 13), P_zl x.1, P_un, P_z x.2, P_z 3, P_un, P_un] [P_z 3, .ref (w.2.2 13)] _ _ from ?_)
  refine P_aw_call P_i80_33 rfl rfl (fun _ => rfl) rfl rfl rfl rfl (y2 := 82) (as := [.ref (w.2.2 13), P_z 3]) (r0 := []) (P_inv_v (hw.2.1 13 (by decide)) (hw.s rfl) rfl rfl) (Nat.le_of_ble_eq_true rfl) (by decide) rfl (Nat.le_of_ble_eq_true rfl) (s_bi hw (by omega) hC hs ?_)
  show P_aw _ _ _ 36 [.ref (w.2.2 13), P_zl x.1, P_un, P_z x.2, P_z 3, P_un, P_un] [] _ _
  refine P_aw_op (L' := [.ref (w.2.2 13), P_zl x.1, P_un, P_z x.2, P_z 3, P_un, P_un]) (st' := [.ref (w.2.2 13)]) P_i80_36 rfl (show P_aw _ _ _ 37 [.ref (w.2.2 13), P_zl x.1, P_un, P_z x.2, P_z 3, P_un, P_un] [.ref (w.2.2 13)] _ _ from ?_)
  have hp2 := A_cst_rg (nv := nv) (sz := sz) (cL := cL) (cS := cS) (cR := cR) hA hs
  refine P_aw_call P_i80_37 rfl rfl (fun _ => rfl) rfl rfl rfl rfl (y2 := 67) (as := [.ref (w.2.2 13)]) (r0 := []) (P_inv_v (hw.2.1 13 (by decide)) (hw.s rfl) rfl rfl) (Nat.le_of_ble_eq_true rfl) (by decide) rfl (Nat.le_of_ble_eq_true rfl) (s_cost hw (A_V_bi (by omega) hA) (A_O_bi (by omega) hs (by omega)) (A_C_bi hC) ((A_bi_ne (by omega) (by omega)).trans hN) hn01 ?_)
  show P_aw _ _ _ 40 [.ref (w.2.2 13), P_zl x.1, P_un, P_z x.2, P_z 3, P_un, P_un] [P_zl ((A_cst rw vr nv 3 sz cL cS cR) 3)] _ _
  refine P_aw_op (L' := [.ref (w.2.2 13), P_zl x.1, P_un, P_z x.2, P_z 3, P_zl ((A_cst rw vr nv 3 sz cL cS cR) 3), P_un]) (st' := []) P_i80_40 rfl (show P_aw _ _ _ 42 [.ref (w.2.2 13), P_zl x.1, P_un, P_z x.2, P_z 3, P_zl ((A_cst rw vr nv 3 sz cL cS cR) 3), P_un] [] _ _ from ?_)
  refine P_aw_op (L' := [.ref (w.2.2 13), P_zl x.1, P_un, P_z x.2, P_z 3, P_zl ((A_cst rw vr nv 3 sz cL cS cR) 3), P_un]) (st' := [P_zl x.1]) P_i80_42 rfl (show P_aw _ _ _ 43 [.ref (w.2.2 13), P_zl x.1, P_un, P_z x.2, P_z 3, P_zl ((A_cst rw vr nv 3 sz cL cS cR) 3), P_un] [P_zl x.1] _ _ from ?_)
  refine P_aw_op (L' := [.ref (w.2.2 13), P_zl x.1, P_un, P_z x.2, P_z 3, P_zl ((A_cst rw vr nv 3 sz cL cS cR) 3), P_un]) (st' := [P_zl (-1), P_zl x.1]) P_i80_43 rfl (show P_aw _ _ _ 46 [.ref (w.2.2 13), P_zl x.1, P_un, P_z x.2, P_z 3, P_zl ((A_cst rw vr nv 3 sz cL cS cR) 3), P_un] [P_zl (-1), P_zl x.1] _ _ from ?_)
  by_cases hc3 : x.1 = (-1)
  · refine P_aw_lct P_i80_46 P_i80_47 ⟨by omega, by omega⟩ ⟨by decide, by decide⟩ (P_ci_eqt (by omega)) (show P_aw _ _ _ 57 [.ref (w.2.2 13), P_zl x.1, P_un, P_z x.2, P_z 3, P_zl ((A_cst rw vr nv 3 sz cL cS cR) 3), P_un] [] _ _ from ?_)
    refine P_aw_op (L' := [.ref (w.2.2 13), P_zl x.1, P_un, P_z x.2, P_z 3, P_zl ((A_cst rw vr nv 3 sz cL cS cR) 3), P_un]) (st' := [P_zl ((A_cst rw vr nv 3 sz cL cS cR) 3)]) P_i80_57 rfl (show P_aw _ _ _ 59 [.ref (w.2.2 13), P_zl x.1, P_un, P_z x.2, P_z 3, P_zl ((A_cst rw vr nv 3 sz cL cS cR) 3), P_un] [P_zl ((A_cst rw vr nv 3 sz cL cS cR) 3)] _ _ from ?_)
    refine P_aw_op (L' := [.ref (w.2.2 13), P_zl ((A_cst rw vr nv 3 sz cL cS cR) 3), P_un, P_z x.2, P_z 3, P_zl ((A_cst rw vr nv 3 sz cL cS cR) 3), P_un]) (st' := []) P_i80_59 rfl (show P_aw _ _ _ 60 [.ref (w.2.2 13), P_zl ((A_cst rw vr nv 3 sz cL cS cR) 3), P_un, P_z x.2, P_z 3, P_zl ((A_cst rw vr nv 3 sz cL cS cR) 3), P_un] [] _ _ from ?_)
    refine P_aw_op (L' := [.ref (w.2.2 13), P_zl ((A_cst rw vr nv 3 sz cL cS cR) 3), P_un, P_z x.2, P_z 3, P_zl ((A_cst rw vr nv 3 sz cL cS cR) 3), P_un]) (st' := [P_z 3]) P_i80_60 rfl (show P_aw _ _ _ 62 [.ref (w.2.2 13), P_zl ((A_cst rw vr nv 3 sz cL cS cR) 3), P_un, P_z x.2, P_z 3, P_zl ((A_cst rw vr nv 3 sz cL cS cR) 3), P_un] [P_z 3] _ _ from ?_)
    refine P_aw_op (L' := [.ref (w.2.2 13), P_zl ((A_cst rw vr nv 3 sz cL cS cR) 3), P_un, P_z 3, P_z 3, P_zl ((A_cst rw vr nv 3 sz cL cS cR) 3), P_un]) (st' := []) P_i80_62 rfl (show P_aw _ _ _ 63 [.ref (w.2.2 13), P_zl ((A_cst rw vr nv 3 sz cL cS cR) 3), P_un, P_z 3, P_z 3, P_zl ((A_cst rw vr nv 3 sz cL cS cR) 3), P_un] [] _ _ from ?_)
    refine P_aw_op (L' := [.ref (w.2.2 13), P_zl ((A_cst rw vr nv 3 sz cL cS cR) 3), P_un, P_z 3, P_z 6, P_zl ((A_cst rw vr nv 3 sz cL cS cR) 3), P_un]) (st' := []) P_i80_63 (P_o_iincv (x := 3) rfl (by decide)) (show P_aw _ _ _ 66 [.ref (w.2.2 13), P_zl ((A_cst rw vr nv 3 sz cL cS cR) 3), P_un, P_z 3, P_z 6, P_zl ((A_cst rw vr nv 3 sz cL cS cR) 3), P_un] [] _ _ from ?_)
    refine P_aw_goto P_i80_66 (show P_aw _ _ _ 9 [.ref (w.2.2 13), P_zl ((A_cst rw vr nv 3 sz cL cS cR) 3), P_un, P_z 3, P_z 6, P_un, P_un] [] _ _ from ?_)
    exact (by simp only [A_bt] at q; first | (rw [if_pos (by omega)] at q; exact q) | (rw [if_neg (by omega)] at q; exact q))
  · refine P_aw_lcf P_i80_46 P_i80_47 ⟨by omega, by omega⟩ ⟨by decide, by decide⟩ (P_ci_eqf (by omega)) (show P_aw _ _ _ 50 [.ref (w.2.2 13), P_zl x.1, P_un, P_z x.2, P_z 3, P_zl ((A_cst rw vr nv 3 sz cL cS cR) 3), P_un] [] _ _ from ?_)
    refine P_aw_op (L' := [.ref (w.2.2 13), P_zl x.1, P_un, P_z x.2, P_z 3, P_zl ((A_cst rw vr nv 3 sz cL cS cR) 3), P_un]) (st' := [P_zl ((A_cst rw vr nv 3 sz cL cS cR) 3)]) P_i80_50 rfl (show P_aw _ _ _ 52 [.ref (w.2.2 13), P_zl x.1, P_un, P_z x.2, P_z 3, P_zl ((A_cst rw vr nv 3 sz cL cS cR) 3), P_un] [P_zl ((A_cst rw vr nv 3 sz cL cS cR) 3)] _ _ from ?_)
    refine P_aw_op (L' := [.ref (w.2.2 13), P_zl x.1, P_un, P_z x.2, P_z 3, P_zl ((A_cst rw vr nv 3 sz cL cS cR) 3), P_un]) (st' := [P_zl x.1, P_zl ((A_cst rw vr nv 3 sz cL cS cR) 3)]) P_i80_52 rfl (show P_aw _ _ _ 53 [.ref (w.2.2 13), P_zl x.1, P_un, P_z x.2, P_z 3, P_zl ((A_cst rw vr nv 3 sz cL cS cR) 3), P_un] [P_zl x.1, P_zl ((A_cst rw vr nv 3 sz cL cS cR) 3)] _ _ from ?_)
    rcases Int.lt_or_le ((A_cst rw vr nv 3 sz cL cS cR) 3) x.1 with hc4 | hc4
    · refine P_aw_lcf P_i80_53 P_i80_54 ⟨by omega, by omega⟩ ⟨by omega, by omega⟩ (P_ci_gef (by omega)) (show P_aw _ _ _ 57 [.ref (w.2.2 13), P_zl x.1, P_un, P_z x.2, P_z 3, P_zl ((A_cst rw vr nv 3 sz cL cS cR) 3), P_un] [] _ _ from ?_)
      refine P_aw_op (L' := [.ref (w.2.2 13), P_zl x.1, P_un, P_z x.2, P_z 3, P_zl ((A_cst rw vr nv 3 sz cL cS cR) 3), P_un]) (st' := [P_zl ((A_cst rw vr nv 3 sz cL cS cR) 3)]) P_i80_57 rfl (show P_aw _ _ _ 59 [.ref (w.2.2 13), P_zl x.1, P_un, P_z x.2, P_z 3, P_zl ((A_cst rw vr nv 3 sz cL cS cR) 3), P_un] [P_zl ((A_cst rw vr nv 3 sz cL cS cR) 3)] _ _ from ?_)
      refine P_aw_op (L' := [.ref (w.2.2 13), P_zl ((A_cst rw vr nv 3 sz cL cS cR) 3), P_un, P_z x.2, P_z 3, P_zl ((A_cst rw vr nv 3 sz cL cS cR) 3), P_un]) (st' := []) P_i80_59 rfl (show P_aw _ _ _ 60 [.ref (w.2.2 13), P_zl ((A_cst rw vr nv 3 sz cL cS cR) 3), P_un, P_z x.2, P_z 3, P_zl ((A_cst rw vr nv 3 sz cL cS cR) 3), P_un] [] _ _ from ?_)
      refine P_aw_op (L' := [.ref (w.2.2 13), P_zl ((A_cst rw vr nv 3 sz cL cS cR) 3), P_un, P_z x.2, P_z 3, P_zl ((A_cst rw vr nv 3 sz cL cS cR) 3), P_un]) (st' := [P_z 3]) P_i80_60 rfl (show P_aw _ _ _ 62 [.ref (w.2.2 13), P_zl ((A_cst rw vr nv 3 sz cL cS cR) 3), P_un, P_z x.2, P_z 3, P_zl ((A_cst rw vr nv 3 sz cL cS cR) 3), P_un] [P_z 3] _ _ from ?_)
      refine P_aw_op (L' := [.ref (w.2.2 13), P_zl ((A_cst rw vr nv 3 sz cL cS cR) 3), P_un, P_z 3, P_z 3, P_zl ((A_cst rw vr nv 3 sz cL cS cR) 3), P_un]) (st' := []) P_i80_62 rfl (show P_aw _ _ _ 63 [.ref (w.2.2 13), P_zl ((A_cst rw vr nv 3 sz cL cS cR) 3), P_un, P_z 3, P_z 3, P_zl ((A_cst rw vr nv 3 sz cL cS cR) 3), P_un] [] _ _ from ?_)
      refine P_aw_op (L' := [.ref (w.2.2 13), P_zl ((A_cst rw vr nv 3 sz cL cS cR) 3), P_un, P_z 3, P_z 6, P_zl ((A_cst rw vr nv 3 sz cL cS cR) 3), P_un]) (st' := []) P_i80_63 (P_o_iincv (x := 3) rfl (by decide)) (show P_aw _ _ _ 66 [.ref (w.2.2 13), P_zl ((A_cst rw vr nv 3 sz cL cS cR) 3), P_un, P_z 3, P_z 6, P_zl ((A_cst rw vr nv 3 sz cL cS cR) 3), P_un] [] _ _ from ?_)
      refine P_aw_goto P_i80_66 (show P_aw _ _ _ 9 [.ref (w.2.2 13), P_zl ((A_cst rw vr nv 3 sz cL cS cR) 3), P_un, P_z 3, P_z 6, P_un, P_un] [] _ _ from ?_)
      exact (by simp only [A_bt] at q; first | (rw [if_pos (by omega)] at q; exact q) | (rw [if_neg (by omega)] at q; exact q))
    · refine P_aw_lct P_i80_53 P_i80_54 ⟨by omega, by omega⟩ ⟨by omega, by omega⟩ (P_ci_get (by omega)) (show P_aw _ _ _ 63 [.ref (w.2.2 13), P_zl x.1, P_un, P_z x.2, P_z 3, P_zl ((A_cst rw vr nv 3 sz cL cS cR) 3), P_un] [] _ _ from ?_)
      refine P_aw_op (L' := [.ref (w.2.2 13), P_zl x.1, P_un, P_z x.2, P_z 6, P_zl ((A_cst rw vr nv 3 sz cL cS cR) 3), P_un]) (st' := []) P_i80_63 (P_o_iincv (x := 3) rfl (by decide)) (show P_aw _ _ _ 66 [.ref (w.2.2 13), P_zl x.1, P_un, P_z x.2, P_z 6, P_zl ((A_cst rw vr nv 3 sz cL cS cR) 3), P_un] [] _ _ from ?_)
      refine P_aw_goto P_i80_66 (show P_aw _ _ _ 9 [.ref (w.2.2 13), P_zl x.1, P_un, P_z x.2, P_z 6, P_un, P_un] [] _ _ from ?_)
      exact (by simp only [A_bt] at q; first | (rw [if_pos (by omega)] at q; exact q) | (rw [if_neg (by omega)] at q; exact q))

theorem s_bt3_6 {w : P_Lw} (hw : P_Cw w) {d : Nat} {Q : P_R → P_A → Prop} {σ : P_A} {tb : Int → Nat} {rw : Int → Int} {vr : Int → Int → Int} (hA : A_V w σ 3 tb rw vr) {sz : Int} {cL cS cR cV : Int → Int} (hC : A_C σ 3 sz cL cS cR cV) {nv : Int} (hN : σ 13 5 = nv) (hn01 : 0 ≤ nv ∧ nv ≤ 1) {x : Int × Int} (hx : -1 ≤ x.1 ∧ x.1 ≤ 3000) (hs : A_isO 3 6) (q : P_aw w (d + 8) 80 9 [.ref (w.2.2 13), P_zl (A_bt (A_cst rw vr nv 3 sz cL cS cR) 6 x).1, P_un, P_z (A_bt (A_cst rw vr nv 3 sz cL cS cR) 6 x).2, P_z 9, P_un, P_un] [] (A_bi σ 6 sz cL cR) Q) : P_aw w (d + 8) 80 9 [.ref (w.2.2 13), P_zl x.1, P_un, P_z x.2, P_z 6, P_un, P_un] [] σ Q := by
  have hsz := hC.2.1
  refine P_aw_op (L' := [.ref (w.2.2 13), P_zl x.1, P_un, P_z x.2, P_z 6, P_un, P_un]) (st' := [P_z 6]) P_i80_9 rfl (show P_aw _ _ _ 11 [.ref (w.2.2 13), P_zl x.1, P_un, P_z x.2, P_z 6, P_un, P_un] [P_z 6] _ _ from ?_)
  refine P_aw_gst P_i80_11 (show P_aw _ _ _ 14 [.ref (w.2.2 13), P_zl x.1, P_un, P_z x.2, P_z 6, P_un, P_un] [.ref 1, P_z 6] _ _ from ?_)
  refine P_aw_olen P_i80_14 (show P_aw _ _ _ 15 [.ref (w.2.2 13), P_zl x.1, P_un, P_z x.2, P_z 6, P_un, P_un] [P_z 18, P_z 6] _ _ from ?_)
  refine P_aw_icf P_i80_15 ⟨by decide, by decide⟩ ⟨by decide, by decide⟩ (P_ci_gef (by omega)) (show P_aw _ _ _ 18 [.ref (w.2.2 13), P_zl x.1, P_un, P_z x.2, P_z 6, P_un, P_un] [] _ _ from ?_)
  refine P_aw_op (L' := [.ref (w.2.2 13), P_zl x.1, P_un, P_z x.2, P_z 6, P_un, P_un]) (st' := [.ref (w.2.2 13)]) P_i80_18 rfl (show P_aw _ _ _ 19 [.ref (w.2.2 13), P_zl x.1, P_un, P_z x.2, P_z 6, P_un, P_un] [.ref (w.2.2 13)] _ _ from ?_)
  refine P_aw_op (L' := [.ref (w.2.2 13), P_zl x.1, P_un, P_z x.2, P_z 6, P_un, P_un]) (st' := [P_z 6, .ref (w.2.2 13)]) P_i80_19 rfl (show P_aw _ _ _ 21 [.ref (w.2.2 13), P_zl x.1, P_un, P_z x.2, P_z 6, P_un, P_un] [P_z 6, .ref (w.2.2 13)] _ _ from ?_)
  refine P_aw_call P_i80_21 rfl rfl (fun _ => rfl) rfl rfl rfl rfl (y2 := 81) (as := [.ref (w.2.2 13), P_z 6]) (r0 := []) (P_inv_v (hw.2.1 13 (by decide)) (hw.s rfl) rfl rfl) (Nat.le_of_ble_eq_true rfl) (by decide) rfl (Nat.le_of_ble_eq_true rfl) (show P_aw _ _ _ 0 [.ref (w.2.2 13), P_z 6, P_un] [] _ _ from ?_)
  refine P_aw_op (L' := [.ref (w.2.2 13), P_z 6, P_un]) (st' := [.ref (w.2.2 13)]) P_i81_0 rfl (show P_aw _ _ _ 1 [.ref (w.2.2 13), P_z 6, P_un] [.ref (w.2.2 13)] _ _ from ?_)
  refine P_aw_getR P_i81_1 (hw.2.1 13 (by decide)) (hw.s rfl) rfl rfl (show P_aw _ _ _ 4 [.ref (w.2.2 13), P_z 6, P_un] [.ref (w.2.2 6)] _ _ from ?_)
  refine P_aw_call P_i81_4 rfl rfl (fun _ => rfl) rfl rfl rfl rfl (y2 := 30) (as := [.ref (w.2.2 6)]) (r0 := []) (P_inv_v (hw.2.1 6 (by decide)) (hw.s rfl) rfl rfl) (Nat.le_of_ble_eq_true rfl) (by decide) rfl (Nat.le_of_ble_eq_true rfl) (show P_aw _ _ _ 0 [.ref (w.2.2 6)] [] _ _ from ?_)
  refine P_aw_op (L' := [.ref (w.2.2 6)]) (st' := [.ref (w.2.2 6)]) P_i30_0 rfl (show P_aw _ _ _ 1 [.ref (w.2.2 6)] [.ref (w.2.2 6)] _ _ from ?_)
  have hg1 := hA.2.1
  refine P_aw_getv P_i30_1 (hw.2.1 6 (by decide)) (hw.s rfl) rfl rfl (hA.1) (show P_aw _ _ _ 4 [.ref (w.2.2 6)] [P_z 3] _ _ from ?_)
  refine P_aw_end P_i30_4 rfl rfl (fun _ => rfl) rfl ?_
  show P_aw _ _ _ 7 [.ref (w.2.2 13), P_z 6, P_un] [P_z 3] _ _
  refine P_aw_op (L' := [.ref (w.2.2 13), P_z 6, P_z 3]) (st' := []) P_i81_7 rfl (show P_aw _ _ _ 8 [P_un, P_z 6, P_z 3] [] _ _ from ?_)
  refine P_aw_op (L' := [P_un, P_z 6, P_z 3]) (st' := [P_z 3]) P_i81_8 rfl (show P_aw _ _ _ 9 [P_un, P_z 6, P_z 3] [P_z 3] _ _ from ?_)
  refine P_aw_op (L' := [P_un, P_z 6, P_z 3]) (st' := [P_z 3, P_z 3]) P_i81_9 rfl (show P_aw _ _ _ 10 [P_un, P_z 6, P_z 3] [P_z 3, P_z 3] _ _ from ?_)
  refine P_aw_ict P_i81_10 ⟨by decide, by decide⟩ ⟨by decide, by decide⟩ (P_ci_get (by omega)) (show P_aw _ _ _ 34 [P_un, P_z 6, P_z 3] [] _ _ from ?_)
  refine P_aw_op (L' := [P_un, P_z 6, P_z 3]) (st' := [P_z 1]) P_i81_34 rfl (show P_aw _ _ _ 35 [P_un, P_z 6, P_z 3] [P_z 1] _ _ from ?_)
  refine P_aw_end P_i81_35 rfl rfl (fun _ => rfl) rfl ?_
  show P_aw _ _ _ 24 [.ref (w.2.2 13), P_zl x.1, P_un, P_z x.2, P_z 6, P_un, P_un] [P_z 1] _ _
  refine P_aw_izt P_i80_24 ⟨by decide, by decide⟩ (P_ci_net (by omega)) (show P_aw _ _ _ 30 [.ref (w.2.2 13), P_zl x.1, P_un, P_z x.2, P_z 6, P_un, P_un] [] _ _ from ?_)
  refine P_aw_op (L' := [.ref (w.2.2 13), P_zl x.1, P_un, P_z x.2, P_z 6, P_un, P_un]) (st' := [.ref (w.2.2 13)]) P_i80_30 rfl (show P_aw _ _ _ 31 [.ref (w.2.2 13), P_zl x.1, P_un, P_z x.2, P_z 6, P_un, P_un] [.ref (w.2.2 13)] _ _ from ?_)
  refine P_aw_op (L' := [.ref (w.2.2 13), P_zl x.1, P_un, P_z x.2, P_z 6, P_un, P_un]) (st' := [P_z 6, .ref (w.2.2 13)]) P_i80_31 rfl (show P_aw _ _ _ 33 [.ref (w.2.2 13), P_zl x.1, P_un, P_z x.2, P_z 6, P_un, P_un] [P_z 6, .ref (w.2.2 13)] _ _ from ?_)
  refine P_aw_call P_i80_33 rfl rfl (fun _ => rfl) rfl rfl rfl rfl (y2 := 82) (as := [.ref (w.2.2 13), P_z 6]) (r0 := []) (P_inv_v (hw.2.1 13 (by decide)) (hw.s rfl) rfl rfl) (Nat.le_of_ble_eq_true rfl) (by decide) rfl (Nat.le_of_ble_eq_true rfl) (s_bi hw (by omega) hC hs ?_)
  show P_aw _ _ _ 36 [.ref (w.2.2 13), P_zl x.1, P_un, P_z x.2, P_z 6, P_un, P_un] [] _ _
  refine P_aw_op (L' := [.ref (w.2.2 13), P_zl x.1, P_un, P_z x.2, P_z 6, P_un, P_un]) (st' := [.ref (w.2.2 13)]) P_i80_36 rfl (show P_aw _ _ _ 37 [.ref (w.2.2 13), P_zl x.1, P_un, P_z x.2, P_z 6, P_un, P_un] [.ref (w.2.2 13)] _ _ from ?_)
  have hp2 := A_cst_rg (nv := nv) (sz := sz) (cL := cL) (cS := cS) (cR := cR) hA hs
  refine P_aw_call P_i80_37 rfl rfl (fun _ => rfl) rfl rfl rfl rfl (y2 := 67) (as := [.ref (w.2.2 13)]) (r0 := []) (P_inv_v (hw.2.1 13 (by decide)) (hw.s rfl) rfl rfl) (Nat.le_of_ble_eq_true rfl) (by decide) rfl (Nat.le_of_ble_eq_true rfl) (s_cost hw (A_V_bi (by omega) hA) (A_O_bi (by omega) hs (by omega)) (A_C_bi hC) ((A_bi_ne (by omega) (by omega)).trans hN) hn01 ?_)
  show P_aw _ _ _ 40 [.ref (w.2.2 13), P_zl x.1, P_un, P_z x.2, P_z 6, P_un, P_un] [P_zl ((A_cst rw vr nv 3 sz cL cS cR) 6)] _ _
  refine P_aw_op (L' := [.ref (w.2.2 13), P_zl x.1, P_un, P_z x.2, P_z 6, P_zl ((A_cst rw vr nv 3 sz cL cS cR) 6), P_un]) (st' := []) P_i80_40 rfl (show P_aw _ _ _ 42 [.ref (w.2.2 13), P_zl x.1, P_un, P_z x.2, P_z 6, P_zl ((A_cst rw vr nv 3 sz cL cS cR) 6), P_un] [] _ _ from ?_)
  refine P_aw_op (L' := [.ref (w.2.2 13), P_zl x.1, P_un, P_z x.2, P_z 6, P_zl ((A_cst rw vr nv 3 sz cL cS cR) 6), P_un]) (st' := [P_zl x.1]) P_i80_42 rfl (show P_aw _ _ _ 43 [.ref (w.2.2 13), P_zl x.1, P_un, P_z x.2, P_z 6, P_zl ((A_cst rw vr nv 3 sz cL cS cR) 6), P_un] [P_zl x.1] _ _ from ?_)
  refine P_aw_op (L' := [.ref (w.2.2 13), P_zl x.1, P_un, P_z x.2, P_z 6, P_zl ((A_cst rw vr nv 3 sz cL cS cR) 6), P_un]) (st' := [P_zl (-1), P_zl x.1]) P_i80_43 rfl (show P_aw _ _ _ 46 [.ref (w.2.2 13), P_zl x.1, P_un, P_z x.2, P_z 6, P_zl ((A_cst rw vr nv 3 sz cL cS cR) 6), P_un] [P_zl (-1), P_zl x.1] _ _ from ?_)
  by_cases hc3 : x.1 = (-1)
  · refine P_aw_lct P_i80_46 P_i80_47 ⟨by omega, by omega⟩ ⟨by decide, by decide⟩ (P_ci_eqt (by omega)) (show P_aw _ _ _ 57 [.ref (w.2.2 13), P_zl x.1, P_un, P_z x.2, P_z 6, P_zl ((A_cst rw vr nv 3 sz cL cS cR) 6), P_un] [] _ _ from ?_)
    refine P_aw_op (L' := [.ref (w.2.2 13), P_zl x.1, P_un, P_z x.2, P_z 6, P_zl ((A_cst rw vr nv 3 sz cL cS cR) 6), P_un]) (st' := [P_zl ((A_cst rw vr nv 3 sz cL cS cR) 6)]) P_i80_57 rfl (show P_aw _ _ _ 59 [.ref (w.2.2 13), P_zl x.1, P_un, P_z x.2, P_z 6, P_zl ((A_cst rw vr nv 3 sz cL cS cR) 6), P_un] [P_zl ((A_cst rw vr nv 3 sz cL cS cR) 6)] _ _ from ?_)
    refine P_aw_op (L' := [.ref (w.2.2 13), P_zl ((A_cst rw vr nv 3 sz cL cS cR) 6), P_un, P_z x.2, P_z 6, P_zl ((A_cst rw vr nv 3 sz cL cS cR) 6), P_un]) (st' := []) P_i80_59 rfl (show P_aw _ _ _ 60 [.ref (w.2.2 13), P_zl ((A_cst rw vr nv 3 sz cL cS cR) 6), P_un, P_z x.2, P_z 6, P_zl ((A_cst rw vr nv 3 sz cL cS cR) 6), P_un] [] _ _ from ?_)
    refine P_aw_op (L' := [.ref (w.2.2 13), P_zl ((A_cst rw vr nv 3 sz cL cS cR) 6), P_un, P_z x.2, P_z 6, P_zl ((A_cst rw vr nv 3 sz cL cS cR) 6), P_un]) (st' := [P_z 6]) P_i80_60 rfl (show P_aw _ _ _ 62 [.ref (w.2.2 13), P_zl ((A_cst rw vr nv 3 sz cL cS cR) 6), P_un, P_z x.2, P_z 6, P_zl ((A_cst rw vr nv 3 sz cL cS cR) 6), P_un] [P_z 6] _ _ from ?_)
    refine P_aw_op (L' := [.ref (w.2.2 13), P_zl ((A_cst rw vr nv 3 sz cL cS cR) 6), P_un, P_z 6, P_z 6, P_zl ((A_cst rw vr nv 3 sz cL cS cR) 6), P_un]) (st' := []) P_i80_62 rfl (show P_aw _ _ _ 63 [.ref (w.2.2 13), P_zl ((A_cst rw vr nv 3 sz cL cS cR) 6), P_un, P_z 6, P_z 6, P_zl ((A_cst rw vr nv 3 sz cL cS cR) 6), P_un] [] _ _ from ?_)
    refine P_aw_op (L' := [.ref (w.2.2 13), P_zl ((A_cst rw vr nv 3 sz cL cS cR) 6), P_un, P_z 6, P_z 9, P_zl ((A_cst rw vr nv 3 sz cL cS cR) 6), P_un]) (st' := []) P_i80_63 (P_o_iincv (x := 6) rfl (by decide)) (show P_aw _ _ _ 66 [.ref (w.2.2 13), P_zl ((A_cst rw vr nv 3 sz cL cS cR) 6), P_un, P_z 6, P_z 9, P_zl ((A_cst rw vr nv 3 sz cL cS cR) 6), P_un] [] _ _ from ?_)
    refine P_aw_goto P_i80_66 (show P_aw _ _ _ 9 [.ref (w.2.2 13), P_zl ((A_cst rw vr nv 3 sz cL cS cR) 6), P_un, P_z 6, P_z 9, P_un, P_un] [] _ _ from ?_)
    exact (by simp only [A_bt] at q; first | (rw [if_pos (by omega)] at q; exact q) | (rw [if_neg (by omega)] at q; exact q))
  · refine P_aw_lcf P_i80_46 P_i80_47 ⟨by omega, by omega⟩ ⟨by decide, by decide⟩ (P_ci_eqf (by omega)) (show P_aw _ _ _ 50 [.ref (w.2.2 13), P_zl x.1, P_un, P_z x.2, P_z 6, P_zl ((A_cst rw vr nv 3 sz cL cS cR) 6), P_un] [] _ _ from ?_)
    refine P_aw_op (L' := [.ref (w.2.2 13), P_zl x.1, P_un, P_z x.2, P_z 6, P_zl ((A_cst rw vr nv 3 sz cL cS cR) 6), P_un]) (st' := [P_zl ((A_cst rw vr nv 3 sz cL cS cR) 6)]) P_i80_50 rfl (show P_aw _ _ _ 52 [.ref (w.2.2 13), P_zl x.1, P_un, P_z x.2, P_z 6, P_zl ((A_cst rw vr nv 3 sz cL cS cR) 6), P_un] [P_zl ((A_cst rw vr nv 3 sz cL cS cR) 6)] _ _ from ?_)
    refine P_aw_op (L' := [.ref (w.2.2 13), P_zl x.1, P_un, P_z x.2, P_z 6, P_zl ((A_cst rw vr nv 3 sz cL cS cR) 6), P_un]) (st' := [P_zl x.1, P_zl ((A_cst rw vr nv 3 sz cL cS cR) 6)]) P_i80_52 rfl (show P_aw _ _ _ 53 [.ref (w.2.2 13), P_zl x.1, P_un, P_z x.2, P_z 6, P_zl ((A_cst rw vr nv 3 sz cL cS cR) 6), P_un] [P_zl x.1, P_zl ((A_cst rw vr nv 3 sz cL cS cR) 6)] _ _ from ?_)
    rcases Int.lt_or_le ((A_cst rw vr nv 3 sz cL cS cR) 6) x.1 with hc4 | hc4
    · refine P_aw_lcf P_i80_53 P_i80_54 ⟨by omega, by omega⟩ ⟨by omega, by omega⟩ (P_ci_gef (by omega)) (show P_aw _ _ _ 57 [.ref (w.2.2 13), P_zl x.1, P_un, P_z x.2, P_z 6, P_zl ((A_cst rw vr nv 3 sz cL cS cR) 6), P_un] [] _ _ from ?_)
      refine P_aw_op (L' := [.ref (w.2.2 13), P_zl x.1, P_un, P_z x.2, P_z 6, P_zl ((A_cst rw vr nv 3 sz cL cS cR) 6), P_un]) (st' := [P_zl ((A_cst rw vr nv 3 sz cL cS cR) 6)]) P_i80_57 rfl (show P_aw _ _ _ 59 [.ref (w.2.2 13), P_zl x.1, P_un, P_z x.2, P_z 6, P_zl ((A_cst rw vr nv 3 sz cL cS cR) 6), P_un] [P_zl ((A_cst rw vr nv 3 sz cL cS cR) 6)] _ _ from ?_)
      refine P_aw_op (L' := [.ref (w.2.2 13), P_zl ((A_cst rw vr nv 3 sz cL cS cR) 6), P_un, P_z x.2, P_z 6, P_zl ((A_cst rw vr nv 3 sz cL cS cR) 6), P_un]) (st' := []) P_i80_59 rfl (show P_aw _ _ _ 60 [.ref (w.2.2 13), P_zl ((A_cst rw vr nv 3 sz cL cS cR) 6), P_un, P_z x.2, P_z 6, P_zl ((A_cst rw vr nv 3 sz cL cS cR) 6), P_un] [] _ _ from ?_)
      refine P_aw_op (L' := [.ref (w.2.2 13), P_zl ((A_cst rw vr nv 3 sz cL cS cR) 6), P_un, P_z x.2, P_z 6, P_zl ((A_cst rw vr nv 3 sz cL cS cR) 6), P_un]) (st' := [P_z 6]) P_i80_60 rfl (show P_aw _ _ _ 62 [.ref (w.2.2 13), P_zl ((A_cst rw vr nv 3 sz cL cS cR) 6), P_un, P_z x.2, P_z 6, P_zl ((A_cst rw vr nv 3 sz cL cS cR) 6), P_un] [P_z 6] _ _ from ?_)
      refine P_aw_op (L' := [.ref (w.2.2 13), P_zl ((A_cst rw vr nv 3 sz cL cS cR) 6), P_un, P_z 6, P_z 6, P_zl ((A_cst rw vr nv 3 sz cL cS cR) 6), P_un]) (st' := []) P_i80_62 rfl (show P_aw _ _ _ 63 [.ref (w.2.2 13), P_zl ((A_cst rw vr nv 3 sz cL cS cR) 6), P_un, P_z 6, P_z 6, P_zl ((A_cst rw vr nv 3 sz cL cS cR) 6), P_un] [] _ _ from ?_)
      refine P_aw_op (L' := [.ref (w.2.2 13), P_zl ((A_cst rw vr nv 3 sz cL cS cR) 6), P_un, P_z 6, P_z 9, P_zl ((A_cst rw vr nv 3 sz cL cS cR) 6), P_un]) (st' := []) P_i80_63 (P_o_iincv (x := 6) rfl (by decide)) (show P_aw _ _ _ 66 [.ref (w.2.2 13), P_zl ((A_cst rw vr nv 3 sz cL cS cR) 6), P_un, P_z 6, P_z 9, P_zl ((A_cst rw vr nv 3 sz cL cS cR) 6), P_un] [] _ _ from ?_)
      refine P_aw_goto P_i80_66 (show P_aw _ _ _ 9 [.ref (w.2.2 13), P_zl ((A_cst rw vr nv 3 sz cL cS cR) 6), P_un, P_z 6, P_z 9, P_un, P_un] [] _ _ from ?_)
      exact (by simp only [A_bt] at q; first | (rw [if_pos (by omega)] at q; exact q) | (rw [if_neg (by omega)] at q; exact q))
    · refine P_aw_lct P_i80_53 P_i80_54 ⟨by omega, by omega⟩ ⟨by omega, by omega⟩ (P_ci_get (by omega)) (show P_aw _ _ _ 63 [.ref (w.2.2 13), P_zl x.1, P_un, P_z x.2, P_z 6, P_zl ((A_cst rw vr nv 3 sz cL cS cR) 6), P_un] [] _ _ from ?_)
      refine P_aw_op (L' := [.ref (w.2.2 13), P_zl x.1, P_un, P_z x.2, P_z 9, P_zl ((A_cst rw vr nv 3 sz cL cS cR) 6), P_un]) (st' := []) P_i80_63 (P_o_iincv (x := 6) rfl (by decide)) (show P_aw _ _ _ 66 [.ref (w.2.2 13), P_zl x.1, P_un, P_z x.2, P_z 9, P_zl ((A_cst rw vr nv 3 sz cL cS cR) 6), P_un] [] _ _ from ?_)
      refine P_aw_goto P_i80_66 (show P_aw _ _ _ 9 [.ref (w.2.2 13), P_zl x.1, P_un, P_z x.2, P_z 9, P_un, P_un] [] _ _ from ?_)
      exact (by simp only [A_bt] at q; first | (rw [if_pos (by omega)] at q; exact q) | (rw [if_neg (by omega)] at q; exact q))

theorem s_bt3_9 {w : P_Lw} (hw : P_Cw w) {d : Nat} {Q : P_R → P_A → Prop} {σ : P_A} {tb : Int → Nat} {rw : Int → Int} {vr : Int → Int → Int} (hA : A_V w σ 3 tb rw vr) {sz : Int} {cL cS cR cV : Int → Int} (hC : A_C σ 3 sz cL cS cR cV) {nv : Int} (hN : σ 13 5 = nv) (hn01 : 0 ≤ nv ∧ nv ≤ 1) {x : Int × Int} (hx : -1 ≤ x.1 ∧ x.1 ≤ 3000) (hs : A_isO 3 9) (q : P_aw w (d + 8) 80 9 [.ref (w.2.2 13), P_zl (A_bt (A_cst rw vr nv 3 sz cL cS cR) 9 x).1, P_un, P_z (A_bt (A_cst rw vr nv 3 sz cL cS cR) 9 x).2, P_z 12, P_un, P_un] [] (A_bi σ 9 sz cL cR) Q) : P_aw w (d + 8) 80 9 [.ref (w.2.2 13), P_zl x.1, P_un, P_z x.2, P_z 9, P_un, P_un] [] σ Q := by
  have hsz := hC.2.1
  refine P_aw_op (L' := [.ref (w.2.2 13), P_zl x.1, P_un, P_z x.2, P_z 9, P_un, P_un]) (st' := [P_z 9]) P_i80_9 rfl (show P_aw _ _ _ 11 [.ref (w.2.2 13), P_zl x.1, P_un, P_z x.2, P_z 9, P_un, P_un] [P_z 9] _ _ from ?_)
  refine P_aw_gst P_i80_11 (show P_aw _ _ _ 14 [.ref (w.2.2 13), P_zl x.1, P_un, P_z x.2, P_z 9, P_un, P_un] [.ref 1, P_z 9] _ _ from ?_)
  refine P_aw_olen P_i80_14 (show P_aw _ _ _ 15 [.ref (w.2.2 13), P_zl x.1, P_un, P_z x.2, P_z 9, P_un, P_un] [P_z 18, P_z 9] _ _ from ?_)
  refine P_aw_icf P_i80_15 ⟨by decide, by decide⟩ ⟨by decide, by decide⟩ (P_ci_gef (by omega)) (show P_aw _ _ _ 18 [.ref (w.2.2 13), P_zl x.1, P_un, P_z x.2, P_z 9, P_un, P_un] [] _ _ from ?_)
  refine P_aw_op (L' := [.ref (w.2.2 13), P_zl x.1, P_un, P_z x.2, P_z 9, P_un, P_un]) (st' := [.ref (w.2.2 13)]) P_i80_18 rfl (show P_aw _ _ _ 19 [.ref (w.2.2 13), P_zl x.1, P_un, P_z x.2, P_z 9, P_un, P_un] [.ref (w.2.2 13)] _ _ from ?_)
  refine P_aw_op (L' := [.ref (w.2.2 13), P_zl x.1, P_un, P_z x.2, P_z 9, P_un, P_un]) (st' := [P_z 9, .ref (w.2.2 13)]) P_i80_19 rfl (show P_aw _ _ _ 21 [.ref (w.2.2 13), P_zl x.1, P_un, P_z x.2, P_z 9, P_un, P_un] [P_z 9, .ref (w.2.2 13)] _ _ from ?_)
  refine P_aw_call P_i80_21 rfl rfl (fun _ => rfl) rfl rfl rfl rfl (y2 := 81) (as := [.ref (w.2.2 13), P_z 9]) (r0 := []) (P_inv_v (hw.2.1 13 (by decide)) (hw.s rfl) rfl rfl) (Nat.le_of_ble_eq_true rfl) (by decide) rfl (Nat.le_of_ble_eq_true rfl) (show P_aw _ _ _ 0 [.ref (w.2.2 13), P_z 9, P_un] [] _ _ from ?_)
  refine P_aw_op (L' := [.ref (w.2.2 13), P_z 9, P_un]) (st' := [.ref (w.2.2 13)]) P_i81_0 rfl (show P_aw _ _ _ 1 [.ref (w.2.2 13), P_z 9, P_un] [.ref (w.2.2 13)] _ _ from ?_)
  refine P_aw_getR P_i81_1 (hw.2.1 13 (by decide)) (hw.s rfl) rfl rfl (show P_aw _ _ _ 4 [.ref (w.2.2 13), P_z 9, P_un] [.ref (w.2.2 6)] _ _ from ?_)
  refine P_aw_call P_i81_4 rfl rfl (fun _ => rfl) rfl rfl rfl rfl (y2 := 30) (as := [.ref (w.2.2 6)]) (r0 := []) (P_inv_v (hw.2.1 6 (by decide)) (hw.s rfl) rfl rfl) (Nat.le_of_ble_eq_true rfl) (by decide) rfl (Nat.le_of_ble_eq_true rfl) (show P_aw _ _ _ 0 [.ref (w.2.2 6)] [] _ _ from ?_)
  refine P_aw_op (L' := [.ref (w.2.2 6)]) (st' := [.ref (w.2.2 6)]) P_i30_0 rfl (show P_aw _ _ _ 1 [.ref (w.2.2 6)] [.ref (w.2.2 6)] _ _ from ?_)
  have hg1 := hA.2.1
  refine P_aw_getv P_i30_1 (hw.2.1 6 (by decide)) (hw.s rfl) rfl rfl (hA.1) (show P_aw _ _ _ 4 [.ref (w.2.2 6)] [P_z 3] _ _ from ?_)
  refine P_aw_end P_i30_4 rfl rfl (fun _ => rfl) rfl ?_
  show P_aw _ _ _ 7 [.ref (w.2.2 13), P_z 9, P_un] [P_z 3] _ _
  refine P_aw_op (L' := [.ref (w.2.2 13), P_z 9, P_z 3]) (st' := []) P_i81_7 rfl (show P_aw _ _ _ 8 [P_un, P_z 9, P_z 3] [] _ _ from ?_)
  refine P_aw_op (L' := [P_un, P_z 9, P_z 3]) (st' := [P_z 3]) P_i81_8 rfl (show P_aw _ _ _ 9 [P_un, P_z 9, P_z 3] [P_z 3] _ _ from ?_)
  refine P_aw_op (L' := [P_un, P_z 9, P_z 3]) (st' := [P_z 3, P_z 3]) P_i81_9 rfl (show P_aw _ _ _ 10 [P_un, P_z 9, P_z 3] [P_z 3, P_z 3] _ _ from ?_)
  refine P_aw_ict P_i81_10 ⟨by decide, by decide⟩ ⟨by decide, by decide⟩ (P_ci_get (by omega)) (show P_aw _ _ _ 34 [P_un, P_z 9, P_z 3] [] _ _ from ?_)
  refine P_aw_op (L' := [P_un, P_z 9, P_z 3]) (st' := [P_z 1]) P_i81_34 rfl (show P_aw _ _ _ 35 [P_un, P_z 9, P_z 3] [P_z 1] _ _ from ?_)
  refine P_aw_end P_i81_35 rfl rfl (fun _ => rfl) rfl ?_
  show P_aw _ _ _ 24 [.ref (w.2.2 13), P_zl x.1, P_un, P_z x.2, P_z 9, P_un, P_un] [P_z 1] _ _
  refine P_aw_izt P_i80_24 ⟨by decide, by decide⟩ (P_ci_net (by omega)) (show P_aw _ _ _ 30 [.ref (w.2.2 13), P_zl x.1, P_un, P_z x.2, P_z 9, P_un, P_un] [] _ _ from ?_)
  refine P_aw_op (L' := [.ref (w.2.2 13), P_zl x.1, P_un, P_z x.2, P_z 9, P_un, P_un]) (st' := [.ref (w.2.2 13)]) P_i80_30 rfl (show P_aw _ _ _ 31 [.ref (w.2.2 13), P_zl x.1, P_un, P_z x.2, P_z 9, P_un, P_un] [.ref (w.2.2 13)] _ _ from ?_)
  refine P_aw_op (L' := [.ref (w.2.2 13), P_zl x.1, P_un, P_z x.2, P_z 9, P_un, P_un]) (st' := [P_z 9, .ref (w.2.2 13)]) P_i80_31 rfl (show P_aw _ _ _ 33 [.ref (w.2.2 13), P_zl x.1, P_un, P_z x.2, P_z 9, P_un, P_un] [P_z 9, .ref (w.2.2 13)] _ _ from ?_)
  refine P_aw_call P_i80_33 rfl rfl (fun _ => rfl) rfl rfl rfl rfl (y2 := 82) (as := [.ref (w.2.2 13), P_z 9]) (r0 := []) (P_inv_v (hw.2.1 13 (by decide)) (hw.s rfl) rfl rfl) (Nat.le_of_ble_eq_true rfl) (by decide) rfl (Nat.le_of_ble_eq_true rfl) (s_bi hw (by omega) hC hs ?_)
  show P_aw _ _ _ 36 [.ref (w.2.2 13), P_zl x.1, P_un, P_z x.2, P_z 9, P_un, P_un] [] _ _
  refine P_aw_op (L' := [.ref (w.2.2 13), P_zl x.1, P_un, P_z x.2, P_z 9, P_un, P_un]) (st' := [.ref (w.2.2 13)]) P_i80_36 rfl (show P_aw _ _ _ 37 [.ref (w.2.2 13), P_zl x.1, P_un, P_z x.2, P_z 9, P_un, P_un] [.ref (w.2.2 13)] _ _ from ?_)
  have hp2 := A_cst_rg (nv := nv) (sz := sz) (cL := cL) (cS := cS) (cR := cR) hA hs
  refine P_aw_call P_i80_37 rfl rfl (fun _ => rfl) rfl rfl rfl rfl (y2 := 67) (as := [.ref (w.2.2 13)]) (r0 := []) (P_inv_v (hw.2.1 13 (by decide)) (hw.s rfl) rfl rfl) (Nat.le_of_ble_eq_true rfl) (by decide) rfl (Nat.le_of_ble_eq_true rfl) (s_cost hw (A_V_bi (by omega) hA) (A_O_bi (by omega) hs (by omega)) (A_C_bi hC) ((A_bi_ne (by omega) (by omega)).trans hN) hn01 ?_)
  show P_aw _ _ _ 40 [.ref (w.2.2 13), P_zl x.1, P_un, P_z x.2, P_z 9, P_un, P_un] [P_zl ((A_cst rw vr nv 3 sz cL cS cR) 9)] _ _
  refine P_aw_op (L' := [.ref (w.2.2 13), P_zl x.1, P_un, P_z x.2, P_z 9, P_zl ((A_cst rw vr nv 3 sz cL cS cR) 9), P_un]) (st' := []) P_i80_40 rfl (show P_aw _ _ _ 42 [.ref (w.2.2 13), P_zl x.1, P_un, P_z x.2, P_z 9, P_zl ((A_cst rw vr nv 3 sz cL cS cR) 9), P_un] [] _ _ from ?_)
  refine P_aw_op (L' := [.ref (w.2.2 13), P_zl x.1, P_un, P_z x.2, P_z 9, P_zl ((A_cst rw vr nv 3 sz cL cS cR) 9), P_un]) (st' := [P_zl x.1]) P_i80_42 rfl (show P_aw _ _ _ 43 [.ref (w.2.2 13), P_zl x.1, P_un, P_z x.2, P_z 9, P_zl ((A_cst rw vr nv 3 sz cL cS cR) 9), P_un] [P_zl x.1] _ _ from ?_)
  refine P_aw_op (L' := [.ref (w.2.2 13), P_zl x.1, P_un, P_z x.2, P_z 9, P_zl ((A_cst rw vr nv 3 sz cL cS cR) 9), P_un]) (st' := [P_zl (-1), P_zl x.1]) P_i80_43 rfl (show P_aw _ _ _ 46 [.ref (w.2.2 13), P_zl x.1, P_un, P_z x.2, P_z 9, P_zl ((A_cst rw vr nv 3 sz cL cS cR) 9), P_un] [P_zl (-1), P_zl x.1] _ _ from ?_)
  by_cases hc3 : x.1 = (-1)
  · refine P_aw_lct P_i80_46 P_i80_47 ⟨by omega, by omega⟩ ⟨by decide, by decide⟩ (P_ci_eqt (by omega)) (show P_aw _ _ _ 57 [.ref (w.2.2 13), P_zl x.1, P_un, P_z x.2, P_z 9, P_zl ((A_cst rw vr nv 3 sz cL cS cR) 9), P_un] [] _ _ from ?_)
    refine P_aw_op (L' := [.ref (w.2.2 13), P_zl x.1, P_un, P_z x.2, P_z 9, P_zl ((A_cst rw vr nv 3 sz cL cS cR) 9), P_un]) (st' := [P_zl ((A_cst rw vr nv 3 sz cL cS cR) 9)]) P_i80_57 rfl (show P_aw _ _ _ 59 [.ref (w.2.2 13), P_zl x.1, P_un, P_z x.2, P_z 9, P_zl ((A_cst rw vr nv 3 sz cL cS cR) 9), P_un] [P_zl ((A_cst rw vr nv 3 sz cL cS cR) 9)] _ _ from ?_)
    refine P_aw_op (L' := [.ref (w.2.2 13), P_zl ((A_cst rw vr nv 3 sz cL cS cR) 9), P_un, P_z x.2, P_z 9, P_zl ((A_cst rw vr nv 3 sz cL cS cR) 9), P_un]) (st' := []) P_i80_59 rfl (show P_aw _ _ _ 60 [.ref (w.2.2 13), P_zl ((A_cst rw vr nv 3 sz cL cS cR) 9), P_un, P_z x.2, P_z 9, P_zl ((A_cst rw vr nv 3 sz cL cS cR) 9), P_un] [] _ _ from ?_)
    refine P_aw_op (L' := [.ref (w.2.2 13), P_zl ((A_cst rw vr nv 3 sz cL cS cR) 9), P_un, P_z x.2, P_z 9, P_zl ((A_cst rw vr nv 3 sz cL cS cR) 9), P_un]) (st' := [P_z 9]) P_i80_60 rfl (show P_aw _ _ _ 62 [.ref (w.2.2 13), P_zl ((A_cst rw vr nv 3 sz cL cS cR) 9), P_un, P_z x.2, P_z 9, P_zl ((A_cst rw vr nv 3 sz cL cS cR) 9), P_un] [P_z 9] _ _ from ?_)
    refine P_aw_op (L' := [.ref (w.2.2 13), P_zl ((A_cst rw vr nv 3 sz cL cS cR) 9), P_un, P_z 9, P_z 9, P_zl ((A_cst rw vr nv 3 sz cL cS cR) 9), P_un]) (st' := []) P_i80_62 rfl (show P_aw _ _ _ 63 [.ref (w.2.2 13), P_zl ((A_cst rw vr nv 3 sz cL cS cR) 9), P_un, P_z 9, P_z 9, P_zl ((A_cst rw vr nv 3 sz cL cS cR) 9), P_un] [] _ _ from ?_)
    refine P_aw_op (L' := [.ref (w.2.2 13), P_zl ((A_cst rw vr nv 3 sz cL cS cR) 9), P_un, P_z 9, P_z 12, P_zl ((A_cst rw vr nv 3 sz cL cS cR) 9), P_un]) (st' := []) P_i80_63 (P_o_iincv (x := 9) rfl (by decide)) (show P_aw _ _ _ 66 [.ref (w.2.2 13), P_zl ((A_cst rw vr nv 3 sz cL cS cR) 9), P_un, P_z 9, P_z 12, P_zl ((A_cst rw vr nv 3 sz cL cS cR) 9), P_un] [] _ _ from ?_)
    refine P_aw_goto P_i80_66 (show P_aw _ _ _ 9 [.ref (w.2.2 13), P_zl ((A_cst rw vr nv 3 sz cL cS cR) 9), P_un, P_z 9, P_z 12, P_un, P_un] [] _ _ from ?_)
    exact (by simp only [A_bt] at q; first | (rw [if_pos (by omega)] at q; exact q) | (rw [if_neg (by omega)] at q; exact q))
  · refine P_aw_lcf P_i80_46 P_i80_47 ⟨by omega, by omega⟩ ⟨by decide, by decide⟩ (P_ci_eqf (by omega)) (show P_aw _ _ _ 50 [.ref (w.2.2 13), P_zl x.1, P_un, P_z x.2, P_z 9, P_zl ((A_cst rw vr nv 3 sz cL cS cR) 9), P_un] [] _ _ from ?_)
    refine P_aw_op (L' := [.ref (w.2.2 13), P_zl x.1, P_un, P_z x.2, P_z 9, P_zl ((A_cst rw vr nv 3 sz cL cS cR) 9), P_un]) (st' := [P_zl ((A_cst rw vr nv 3 sz cL cS cR) 9)]) P_i80_50 rfl (show P_aw _ _ _ 52 [.ref (w.2.2 13), P_zl x.1, P_un, P_z x.2, P_z 9, P_zl ((A_cst rw vr nv 3 sz cL cS cR) 9), P_un] [P_zl ((A_cst rw vr nv 3 sz cL cS cR) 9)] _ _ from ?_)
    refine P_aw_op (L' := [.ref (w.2.2 13), P_zl x.1, P_un, P_z x.2, P_z 9, P_zl ((A_cst rw vr nv 3 sz cL cS cR) 9), P_un]) (st' := [P_zl x.1, P_zl ((A_cst rw vr nv 3 sz cL cS cR) 9)]) P_i80_52 rfl (show P_aw _ _ _ 53 [.ref (w.2.2 13), P_zl x.1, P_un, P_z x.2, P_z 9, P_zl ((A_cst rw vr nv 3 sz cL cS cR) 9), P_un] [P_zl x.1, P_zl ((A_cst rw vr nv 3 sz cL cS cR) 9)] _ _ from ?_)
    rcases Int.lt_or_le ((A_cst rw vr nv 3 sz cL cS cR) 9) x.1 with hc4 | hc4
    · refine P_aw_lcf P_i80_53 P_i80_54 ⟨by omega, by omega⟩ ⟨by omega, by omega⟩ (P_ci_gef (by omega)) (show P_aw _ _ _ 57 [.ref (w.2.2 13), P_zl x.1, P_un, P_z x.2, P_z 9, P_zl ((A_cst rw vr nv 3 sz cL cS cR) 9), P_un] [] _ _ from ?_)
      refine P_aw_op (L' := [.ref (w.2.2 13), P_zl x.1, P_un, P_z x.2, P_z 9, P_zl ((A_cst rw vr nv 3 sz cL cS cR) 9), P_un]) (st' := [P_zl ((A_cst rw vr nv 3 sz cL cS cR) 9)]) P_i80_57 rfl (show P_aw _ _ _ 59 [.ref (w.2.2 13), P_zl x.1, P_un, P_z x.2, P_z 9, P_zl ((A_cst rw vr nv 3 sz cL cS cR) 9), P_un] [P_zl ((A_cst rw vr nv 3 sz cL cS cR) 9)] _ _ from ?_)
      refine P_aw_op (L' := [.ref (w.2.2 13), P_zl ((A_cst rw vr nv 3 sz cL cS cR) 9), P_un, P_z x.2, P_z 9, P_zl ((A_cst rw vr nv 3 sz cL cS cR) 9), P_un]) (st' := []) P_i80_59 rfl (show P_aw _ _ _ 60 [.ref (w.2.2 13), P_zl ((A_cst rw vr nv 3 sz cL cS cR) 9), P_un, P_z x.2, P_z 9, P_zl ((A_cst rw vr nv 3 sz cL cS cR) 9), P_un] [] _ _ from ?_)
      refine P_aw_op (L' := [.ref (w.2.2 13), P_zl ((A_cst rw vr nv 3 sz cL cS cR) 9), P_un, P_z x.2, P_z 9, P_zl ((A_cst rw vr nv 3 sz cL cS cR) 9), P_un]) (st' := [P_z 9]) P_i80_60 rfl (show P_aw _ _ _ 62 [.ref (w.2.2 13), P_zl ((A_cst rw vr nv 3 sz cL cS cR) 9), P_un, P_z x.2, P_z 9, P_zl ((A_cst rw vr nv 3 sz cL cS cR) 9), P_un] [P_z 9] _ _ from ?_)
      refine P_aw_op (L' := [.ref (w.2.2 13), P_zl ((A_cst rw vr nv 3 sz cL cS cR) 9), P_un, P_z 9, P_z 9, P_zl ((A_cst rw vr nv 3 sz cL cS cR) 9), P_un]) (st' := []) P_i80_62 rfl (show P_aw _ _ _ 63 [.ref (w.2.2 13), P_zl ((A_cst rw vr nv 3 sz cL cS cR) 9), P_un, P_z 9, P_z 9, P_zl ((A_cst rw vr nv 3 sz cL cS cR) 9), P_un] [] _ _ from ?_)
      refine P_aw_op (L' := [.ref (w.2.2 13), P_zl ((A_cst rw vr nv 3 sz cL cS cR) 9), P_un, P_z 9, P_z 12, P_zl ((A_cst rw vr nv 3 sz cL cS cR) 9), P_un]) (st' := []) P_i80_63 (P_o_iincv (x := 9) rfl (by decide)) (show P_aw _ _ _ 66 [.ref (w.2.2 13), P_zl ((A_cst rw vr nv 3 sz cL cS cR) 9), P_un, P_z 9, P_z 12, P_zl ((A_cst rw vr nv 3 sz cL cS cR) 9), P_un] [] _ _ from ?_)
      refine P_aw_goto P_i80_66 (show P_aw _ _ _ 9 [.ref (w.2.2 13), P_zl ((A_cst rw vr nv 3 sz cL cS cR) 9), P_un, P_z 9, P_z 12, P_un, P_un] [] _ _ from ?_)
      exact (by simp only [A_bt] at q; first | (rw [if_pos (by omega)] at q; exact q) | (rw [if_neg (by omega)] at q; exact q))
    · refine P_aw_lct P_i80_53 P_i80_54 ⟨by omega, by omega⟩ ⟨by omega, by omega⟩ (P_ci_get (by omega)) (show P_aw _ _ _ 63 [.ref (w.2.2 13), P_zl x.1, P_un, P_z x.2, P_z 9, P_zl ((A_cst rw vr nv 3 sz cL cS cR) 9), P_un] [] _ _ from ?_)
      refine P_aw_op (L' := [.ref (w.2.2 13), P_zl x.1, P_un, P_z x.2, P_z 12, P_zl ((A_cst rw vr nv 3 sz cL cS cR) 9), P_un]) (st' := []) P_i80_63 (P_o_iincv (x := 9) rfl (by decide)) (show P_aw _ _ _ 66 [.ref (w.2.2 13), P_zl x.1, P_un, P_z x.2, P_z 12, P_zl ((A_cst rw vr nv 3 sz cL cS cR) 9), P_un] [] _ _ from ?_)
      refine P_aw_goto P_i80_66 (show P_aw _ _ _ 9 [.ref (w.2.2 13), P_zl x.1, P_un, P_z x.2, P_z 12, P_un, P_un] [] _ _ from ?_)
      exact (by simp only [A_bt] at q; first | (rw [if_pos (by omega)] at q; exact q) | (rw [if_neg (by omega)] at q; exact q))

theorem s_bt3_12 {w : P_Lw} (hw : P_Cw w) {d : Nat} {Q : P_R → P_A → Prop} {σ : P_A} {tb : Int → Nat} {rw : Int → Int} {vr : Int → Int → Int} (hA : A_V w σ 3 tb rw vr) {sz : Int} {cL cS cR cV : Int → Int} (hC : A_C σ 3 sz cL cS cR cV) {nv : Int} (hN : σ 13 5 = nv) (hn01 : 0 ≤ nv ∧ nv ≤ 1) {x : Int × Int} (hx : -1 ≤ x.1 ∧ x.1 ≤ 3000) (hs : A_isO 3 12) (q : P_aw w (d + 8) 80 9 [.ref (w.2.2 13), P_zl (A_bt (A_cst rw vr nv 3 sz cL cS cR) 12 x).1, P_un, P_z (A_bt (A_cst rw vr nv 3 sz cL cS cR) 12 x).2, P_z 15, P_un, P_un] [] (A_bi σ 12 sz cL cR) Q) : P_aw w (d + 8) 80 9 [.ref (w.2.2 13), P_zl x.1, P_un, P_z x.2, P_z 12, P_un, P_un] [] σ Q := by
  have hsz := hC.2.1
  refine P_aw_op (L' := [.ref (w.2.2 13), P_zl x.1, P_un, P_z x.2, P_z 12, P_un, P_un]) (st' := [P_z 12]) P_i80_9 rfl (show P_aw _ _ _ 11 [.ref (w.2.2 13), P_zl x.1, P_un, P_z x.2, P_z 12, P_un, P_un] [P_z 12] _ _ from ?_)
  refine P_aw_gst P_i80_11 (show P_aw _ _ _ 14 [.ref (w.2.2 13), P_zl x.1, P_un, P_z x.2, P_z 12, P_un, P_un] [.ref 1, P_z 12] _ _ from ?_)
  refine P_aw_olen P_i80_14 (show P_aw _ _ _ 15 [.ref (w.2.2 13), P_zl x.1, P_un, P_z x.2, P_z 12, P_un, P_un] [P_z 18, P_z 12] _ _ from ?_)
  refine P_aw_icf P_i80_15 ⟨by decide, by decide⟩ ⟨by decide, by decide⟩ (P_ci_gef (by omega)) (show P_aw _ _ _ 18 [.ref (w.2.2 13), P_zl x.1, P_un, P_z x.2, P_z 12, P_un, P_un] [] _ _ from ?_)
  refine P_aw_op (L' := [.ref (w.2.2 13), P_zl x.1, P_un, P_z x.2, P_z 12, P_un, P_un]) (st' := [.ref (w.2.2 13)]) P_i80_18 rfl (show P_aw _ _ _ 19 [.ref (w.2.2 13), P_zl x.1, P_un, P_z x.2, P_z 12, P_un, P_un] [.ref (w.2.2 13)] _ _ from ?_)
  refine P_aw_op (L' := [.ref (w.2.2 13), P_zl x.1, P_un, P_z x.2, P_z 12, P_un, P_un]) (st' := [P_z 12, .ref (w.2.2 13)]) P_i80_19 rfl (show P_aw _ _ _ 21 [.ref (w.2.2 13), P_zl x.1, P_un, P_z x.2, P_z 12, P_un, P_un] [P_z 12, .ref (w.2.2 13)] _ _ from ?_)
  refine P_aw_call P_i80_21 rfl rfl (fun _ => rfl) rfl rfl rfl rfl (y2 := 81) (as := [.ref (w.2.2 13), P_z 12]) (r0 := []) (P_inv_v (hw.2.1 13 (by decide)) (hw.s rfl) rfl rfl) (Nat.le_of_ble_eq_true rfl) (by decide) rfl (Nat.le_of_ble_eq_true rfl) (show P_aw _ _ _ 0 [.ref (w.2.2 13), P_z 12, P_un] [] _ _ from ?_)
  refine P_aw_op (L' := [.ref (w.2.2 13), P_z 12, P_un]) (st' := [.ref (w.2.2 13)]) P_i81_0 rfl (show P_aw _ _ _ 1 [.ref (w.2.2 13), P_z 12, P_un] [.ref (w.2.2 13)] _ _ from ?_)
  refine P_aw_getR P_i81_1 (hw.2.1 13 (by decide)) (hw.s rfl) rfl rfl (show P_aw _ _ _ 4 [.ref (w.2.2 13), P_z 12, P_un] [.ref (w.2.2 6)] _ _ from ?_)
  refine P_aw_call P_i81_4 rfl rfl (fun _ => rfl) rfl rfl rfl rfl (y2 := 30) (as := [.ref (w.2.2 6)]) (r0 := []) (P_inv_v (hw.2.1 6 (by decide)) (hw.s rfl) rfl rfl) (Nat.le_of_ble_eq_true rfl) (by decide) rfl (Nat.le_of_ble_eq_true rfl) (show P_aw _ _ _ 0 [.ref (w.2.2 6)] [] _ _ from ?_)
  refine P_aw_op (L' := [.ref (w.2.2 6)]) (st' := [.ref (w.2.2 6)]) P_i30_0 rfl (show P_aw _ _ _ 1 [.ref (w.2.2 6)] [.ref (w.2.2 6)] _ _ from ?_)
  have hg1 := hA.2.1
  refine P_aw_getv P_i30_1 (hw.2.1 6 (by decide)) (hw.s rfl) rfl rfl (hA.1) (show P_aw _ _ _ 4 [.ref (w.2.2 6)] [P_z 3] _ _ from ?_)
  refine P_aw_end P_i30_4 rfl rfl (fun _ => rfl) rfl ?_
  show P_aw _ _ _ 7 [.ref (w.2.2 13), P_z 12, P_un] [P_z 3] _ _
  refine P_aw_op (L' := [.ref (w.2.2 13), P_z 12, P_z 3]) (st' := []) P_i81_7 rfl (show P_aw _ _ _ 8 [P_un, P_z 12, P_z 3] [] _ _ from ?_)
  refine P_aw_op (L' := [P_un, P_z 12, P_z 3]) (st' := [P_z 3]) P_i81_8 rfl (show P_aw _ _ _ 9 [P_un, P_z 12, P_z 3] [P_z 3] _ _ from ?_)
  refine P_aw_op (L' := [P_un, P_z 12, P_z 3]) (st' := [P_z 3, P_z 3]) P_i81_9 rfl (show P_aw _ _ _ 10 [P_un, P_z 12, P_z 3] [P_z 3, P_z 3] _ _ from ?_)
  refine P_aw_ict P_i81_10 ⟨by decide, by decide⟩ ⟨by decide, by decide⟩ (P_ci_get (by omega)) (show P_aw _ _ _ 34 [P_un, P_z 12, P_z 3] [] _ _ from ?_)
  refine P_aw_op (L' := [P_un, P_z 12, P_z 3]) (st' := [P_z 1]) P_i81_34 rfl (show P_aw _ _ _ 35 [P_un, P_z 12, P_z 3] [P_z 1] _ _ from ?_)
  refine P_aw_end P_i81_35 rfl rfl (fun _ => rfl) rfl ?_
  show P_aw _ _ _ 24 [.ref (w.2.2 13), P_zl x.1, P_un, P_z x.2, P_z 12, P_un, P_un] [P_z 1] _ _
  refine P_aw_izt P_i80_24 ⟨by decide, by decide⟩ (P_ci_net (by omega)) (show P_aw _ _ _ 30 [.ref (w.2.2 13), P_zl x.1, P_un, P_z x.2, P_z 12, P_un, P_un] [] _ _ from ?_)
  refine P_aw_op (L' := [.ref (w.2.2 13), P_zl x.1, P_un, P_z x.2, P_z 12, P_un, P_un]) (st' := [.ref (w.2.2 13)]) P_i80_30 rfl (show P_aw _ _ _ 31 [.ref (w.2.2 13), P_zl x.1, P_un, P_z x.2, P_z 12, P_un, P_un] [.ref (w.2.2 13)] _ _ from ?_)
  refine P_aw_op (L' := [.ref (w.2.2 13), P_zl x.1, P_un, P_z x.2, P_z 12, P_un, P_un]) (st' := [P_z 12, .ref (w.2.2 13)]) P_i80_31 rfl (show P_aw _ _ _ 33 [.ref (w.2.2 13), P_zl x.1, P_un, P_z x.2, P_z 12, P_un, P_un] [P_z 12, .ref (w.2.2 13)] _ _ from ?_)
  refine P_aw_call P_i80_33 rfl rfl (fun _ => rfl) rfl rfl rfl rfl (y2 := 82) (as := [.ref (w.2.2 13), P_z 12]) (r0 := []) (P_inv_v (hw.2.1 13 (by decide)) (hw.s rfl) rfl rfl) (Nat.le_of_ble_eq_true rfl) (by decide) rfl (Nat.le_of_ble_eq_true rfl) (s_bi hw (by omega) hC hs ?_)
  show P_aw _ _ _ 36 [.ref (w.2.2 13), P_zl x.1, P_un, P_z x.2, P_z 12, P_un, P_un] [] _ _
  refine P_aw_op (L' := [.ref (w.2.2 13), P_zl x.1, P_un, P_z x.2, P_z 12, P_un, P_un]) (st' := [.ref (w.2.2 13)]) P_i80_36 rfl (show P_aw _ _ _ 37 [.ref (w.2.2 13), P_zl x.1, P_un, P_z x.2, P_z 12, P_un, P_un] [.ref (w.2.2 13)] _ _ from ?_)
  have hp2 := A_cst_rg (nv := nv) (sz := sz) (cL := cL) (cS := cS) (cR := cR) hA hs
  refine P_aw_call P_i80_37 rfl rfl (fun _ => rfl) rfl rfl rfl rfl (y2 := 67) (as := [.ref (w.2.2 13)]) (r0 := []) (P_inv_v (hw.2.1 13 (by decide)) (hw.s rfl) rfl rfl) (Nat.le_of_ble_eq_true rfl) (by decide) rfl (Nat.le_of_ble_eq_true rfl) (s_cost hw (A_V_bi (by omega) hA) (A_O_bi (by omega) hs (by omega)) (A_C_bi hC) ((A_bi_ne (by omega) (by omega)).trans hN) hn01 ?_)
  show P_aw _ _ _ 40 [.ref (w.2.2 13), P_zl x.1, P_un, P_z x.2, P_z 12, P_un, P_un] [P_zl ((A_cst rw vr nv 3 sz cL cS cR) 12)] _ _
  refine P_aw_op (L' := [.ref (w.2.2 13), P_zl x.1, P_un, P_z x.2, P_z 12, P_zl ((A_cst rw vr nv 3 sz cL cS cR) 12), P_un]) (st' := []) P_i80_40 rfl (show P_aw _ _ _ 42 [.ref (w.2.2 13), P_zl x.1, P_un, P_z x.2, P_z 12, P_zl ((A_cst rw vr nv 3 sz cL cS cR) 12), P_un] [] _ _ from ?_)
  refine P_aw_op (L' := [.ref (w.2.2 13), P_zl x.1, P_un, P_z x.2, P_z 12, P_zl ((A_cst rw vr nv 3 sz cL cS cR) 12), P_un]) (st' := [P_zl x.1]) P_i80_42 rfl (show P_aw _ _ _ 43 [.ref (w.2.2 13), P_zl x.1, P_un, P_z x.2, P_z 12, P_zl ((A_cst rw vr nv 3 sz cL cS cR) 12), P_un] [P_zl x.1] _ _ from ?_)
  refine P_aw_op (L' := [.ref (w.2.2 13), P_zl x.1, P_un, P_z x.2, P_z 12, P_zl ((A_cst rw vr nv 3 sz cL cS cR) 12), P_un]) (st' := [P_zl (-1), P_zl x.1]) P_i80_43 rfl (show P_aw _ _ _ 46 [.ref (w.2.2 13), P_zl x.1, P_un, P_z x.2, P_z 12, P_zl ((A_cst rw vr nv 3 sz cL cS cR) 12), P_un] [P_zl (-1), P_zl x.1] _ _ from ?_)
  by_cases hc3 : x.1 = (-1)
  · refine P_aw_lct P_i80_46 P_i80_47 ⟨by omega, by omega⟩ ⟨by decide, by decide⟩ (P_ci_eqt (by omega)) (show P_aw _ _ _ 57 [.ref (w.2.2 13), P_zl x.1, P_un, P_z x.2, P_z 12, P_zl ((A_cst rw vr nv 3 sz cL cS cR) 12), P_un] [] _ _ from ?_)
    refine P_aw_op (L' := [.ref (w.2.2 13), P_zl x.1, P_un, P_z x.2, P_z 12, P_zl ((A_cst rw vr nv 3 sz cL cS cR) 12), P_un]) (st' := [P_zl ((A_cst rw vr nv 3 sz cL cS cR) 12)]) P_i80_57 rfl (show P_aw _ _ _ 59 [.ref (w.2.2 13), P_zl x.1, P_un, P_z x.2, P_z 12, P_zl ((A_cst rw vr nv 3 sz cL cS cR) 12), P_un] [P_zl ((A_cst rw vr nv 3 sz cL cS cR) 12)] _ _ from ?_)
    refine P_aw_op (L' := [.ref (w.2.2 13), P_zl ((A_cst rw vr nv 3 sz cL cS cR) 12), P_un, P_z x.2, P_z 12, P_zl ((A_cst rw vr nv 3 sz cL cS cR) 12), P_un]) (st' := []) P_i80_59 rfl (show P_aw _ _ _ 60 [.ref (w.2.2 13), P_zl ((A_cst rw vr nv 3 sz cL cS cR) 12), P_un, P_z x.2, P_z 12, P_zl ((A_cst rw vr nv 3 sz cL cS cR) 12), P_un] [] _ _ from ?_)
    refine P_aw_op (L' := [.ref (w.2.2 13), P_zl ((A_cst rw vr nv 3 sz cL cS cR) 12), P_un, P_z x.2, P_z 12, P_zl ((A_cst rw vr nv 3 sz cL cS cR) 12), P_un]) (st' := [P_z 12]) P_i80_60 rfl (show P_aw _ _ _ 62 [.ref (w.2.2 13), P_zl ((A_cst rw vr nv 3 sz cL cS cR) 12), P_un, P_z x.2, P_z 12, P_zl ((A_cst rw vr nv 3 sz cL cS cR) 12), P_un] [P_z 12] _ _ from ?_)
    refine P_aw_op (L' := [.ref (w.2.2 13), P_zl ((A_cst rw vr nv 3 sz cL cS cR) 12), P_un, P_z 12, P_z 12, P_zl ((A_cst rw vr nv 3 sz cL cS cR) 12), P_un]) (st' := []) P_i80_62 rfl (show P_aw _ _ _ 63 [.ref (w.2.2 13), P_zl ((A_cst rw vr nv 3 sz cL cS cR) 12), P_un, P_z 12, P_z 12, P_zl ((A_cst rw vr nv 3 sz cL cS cR) 12), P_un] [] _ _ from ?_)
    refine P_aw_op (L' := [.ref (w.2.2 13), P_zl ((A_cst rw vr nv 3 sz cL cS cR) 12), P_un, P_z 12, P_z 15, P_zl ((A_cst rw vr nv 3 sz cL cS cR) 12), P_un]) (st' := []) P_i80_63 (P_o_iincv (x := 12) rfl (by decide)) (show P_aw _ _ _ 66 [.ref (w.2.2 13), P_zl ((A_cst rw vr nv 3 sz cL cS cR) 12), P_un, P_z 12, P_z 15, P_zl ((A_cst rw vr nv 3 sz cL cS cR) 12), P_un] [] _ _ from ?_)
    refine P_aw_goto P_i80_66 (show P_aw _ _ _ 9 [.ref (w.2.2 13), P_zl ((A_cst rw vr nv 3 sz cL cS cR) 12), P_un, P_z 12, P_z 15, P_un, P_un] [] _ _ from ?_)
    exact (by simp only [A_bt] at q; first | (rw [if_pos (by omega)] at q; exact q) | (rw [if_neg (by omega)] at q; exact q))
  · refine P_aw_lcf P_i80_46 P_i80_47 ⟨by omega, by omega⟩ ⟨by decide, by decide⟩ (P_ci_eqf (by omega)) (show P_aw _ _ _ 50 [.ref (w.2.2 13), P_zl x.1, P_un, P_z x.2, P_z 12, P_zl ((A_cst rw vr nv 3 sz cL cS cR) 12), P_un] [] _ _ from ?_)
    refine P_aw_op (L' := [.ref (w.2.2 13), P_zl x.1, P_un, P_z x.2, P_z 12, P_zl ((A_cst rw vr nv 3 sz cL cS cR) 12), P_un]) (st' := [P_zl ((A_cst rw vr nv 3 sz cL cS cR) 12)]) P_i80_50 rfl (show P_aw _ _ _ 52 [.ref (w.2.2 13), P_zl x.1, P_un, P_z x.2, P_z 12, P_zl ((A_cst rw vr nv 3 sz cL cS cR) 12), P_un] [P_zl ((A_cst rw vr nv 3 sz cL cS cR) 12)] _ _ from ?_)
    refine P_aw_op (L' := [.ref (w.2.2 13), P_zl x.1, P_un, P_z x.2, P_z 12, P_zl ((A_cst rw vr nv 3 sz cL cS cR) 12), P_un]) (st' := [P_zl x.1, P_zl ((A_cst rw vr nv 3 sz cL cS cR) 12)]) P_i80_52 rfl (show P_aw _ _ _ 53 [.ref (w.2.2 13), P_zl x.1, P_un, P_z x.2, P_z 12, P_zl ((A_cst rw vr nv 3 sz cL cS cR) 12), P_un] [P_zl x.1, P_zl ((A_cst rw vr nv 3 sz cL cS cR) 12)] _ _ from ?_)
    rcases Int.lt_or_le ((A_cst rw vr nv 3 sz cL cS cR) 12) x.1 with hc4 | hc4
    · refine P_aw_lcf P_i80_53 P_i80_54 ⟨by omega, by omega⟩ ⟨by omega, by omega⟩ (P_ci_gef (by omega)) (show P_aw _ _ _ 57 [.ref (w.2.2 13), P_zl x.1, P_un, P_z x.2, P_z 12, P_zl ((A_cst rw vr nv 3 sz cL cS cR) 12), P_un] [] _ _ from ?_)
      refine P_aw_op (L' := [.ref (w.2.2 13), P_zl x.1, P_un, P_z x.2, P_z 12, P_zl ((A_cst rw vr nv 3 sz cL cS cR) 12), P_un]) (st' := [P_zl ((A_cst rw vr nv 3 sz cL cS cR) 12)]) P_i80_57 rfl (show P_aw _ _ _ 59 [.ref (w.2.2 13), P_zl x.1, P_un, P_z x.2, P_z 12, P_zl ((A_cst rw vr nv 3 sz cL cS cR) 12), P_un] [P_zl ((A_cst rw vr nv 3 sz cL cS cR) 12)] _ _ from ?_)
      refine P_aw_op (L' := [.ref (w.2.2 13), P_zl ((A_cst rw vr nv 3 sz cL cS cR) 12), P_un, P_z x.2, P_z 12, P_zl ((A_cst rw vr nv 3 sz cL cS cR) 12), P_un]) (st' := []) P_i80_59 rfl (show P_aw _ _ _ 60 [.ref (w.2.2 13), P_zl ((A_cst rw vr nv 3 sz cL cS cR) 12), P_un, P_z x.2, P_z 12, P_zl ((A_cst rw vr nv 3 sz cL cS cR) 12), P_un] [] _ _ from ?_)
      refine P_aw_op (L' := [.ref (w.2.2 13), P_zl ((A_cst rw vr nv 3 sz cL cS cR) 12), P_un, P_z x.2, P_z 12, P_zl ((A_cst rw vr nv 3 sz cL cS cR) 12), P_un]) (st' := [P_z 12]) P_i80_60 rfl (show P_aw _ _ _ 62 [.ref (w.2.2 13), P_zl ((A_cst rw vr nv 3 sz cL cS cR) 12), P_un, P_z x.2, P_z 12, P_zl ((A_cst rw vr nv 3 sz cL cS cR) 12), P_un] [P_z 12] _ _ from ?_)
      refine P_aw_op (L' := [.ref (w.2.2 13), P_zl ((A_cst rw vr nv 3 sz cL cS cR) 12), P_un, P_z 12, P_z 12, P_zl ((A_cst rw vr nv 3 sz cL cS cR) 12), P_un]) (st' := []) P_i80_62 rfl (show P_aw _ _ _ 63 [.ref (w.2.2 13), P_zl ((A_cst rw vr nv 3 sz cL cS cR) 12), P_un, P_z 12, P_z 12, P_zl ((A_cst rw vr nv 3 sz cL cS cR) 12), P_un] [] _ _ from ?_)
      refine P_aw_op (L' := [.ref (w.2.2 13), P_zl ((A_cst rw vr nv 3 sz cL cS cR) 12), P_un, P_z 12, P_z 15, P_zl ((A_cst rw vr nv 3 sz cL cS cR) 12), P_un]) (st' := []) P_i80_63 (P_o_iincv (x := 12) rfl (by decide)) (show P_aw _ _ _ 66 [.ref (w.2.2 13), P_zl ((A_cst rw vr nv 3 sz cL cS cR) 12), P_un, P_z 12, P_z 15, P_zl ((A_cst rw vr nv 3 sz cL cS cR) 12), P_un] [] _ _ from ?_)
      refine P_aw_goto P_i80_66 (show P_aw _ _ _ 9 [.ref (w.2.2 13), P_zl ((A_cst rw vr nv 3 sz cL cS cR) 12), P_un, P_z 12, P_z 15, P_un, P_un] [] _ _ from ?_)
      exact (by simp only [A_bt] at q; first | (rw [if_pos (by omega)] at q; exact q) | (rw [if_neg (by omega)] at q; exact q))
    · refine P_aw_lct P_i80_53 P_i80_54 ⟨by omega, by omega⟩ ⟨by omega, by omega⟩ (P_ci_get (by omega)) (show P_aw _ _ _ 63 [.ref (w.2.2 13), P_zl x.1, P_un, P_z x.2, P_z 12, P_zl ((A_cst rw vr nv 3 sz cL cS cR) 12), P_un] [] _ _ from ?_)
      refine P_aw_op (L' := [.ref (w.2.2 13), P_zl x.1, P_un, P_z x.2, P_z 15, P_zl ((A_cst rw vr nv 3 sz cL cS cR) 12), P_un]) (st' := []) P_i80_63 (P_o_iincv (x := 12) rfl (by decide)) (show P_aw _ _ _ 66 [.ref (w.2.2 13), P_zl x.1, P_un, P_z x.2, P_z 15, P_zl ((A_cst rw vr nv 3 sz cL cS cR) 12), P_un] [] _ _ from ?_)
      refine P_aw_goto P_i80_66 (show P_aw _ _ _ 9 [.ref (w.2.2 13), P_zl x.1, P_un, P_z x.2, P_z 15, P_un, P_un] [] _ _ from ?_)
      exact (by simp only [A_bt] at q; first | (rw [if_pos (by omega)] at q; exact q) | (rw [if_neg (by omega)] at q; exact q))

theorem s_bt3_15 {w : P_Lw} (hw : P_Cw w) {d : Nat} {Q : P_R → P_A → Prop} {σ : P_A} {tb : Int → Nat} {rw : Int → Int} {vr : Int → Int → Int} (hA : A_V w σ 3 tb rw vr) {sz : Int} {cL cS cR cV : Int → Int} (hC : A_C σ 3 sz cL cS cR cV) {nv : Int} (hN : σ 13 5 = nv) (hn01 : 0 ≤ nv ∧ nv ≤ 1) {x : Int × Int} (hx : -1 ≤ x.1 ∧ x.1 ≤ 3000) (hs : A_isO 3 15) (q : P_aw w (d + 8) 80 9 [.ref (w.2.2 13), P_zl (A_bt (A_cst rw vr nv 3 sz cL cS cR) 15 x).1, P_un, P_z (A_bt (A_cst rw vr nv 3 sz cL cS cR) 15 x).2, P_z 18, P_un, P_un] [] (A_bi σ 15 sz cL cR) Q) : P_aw w (d + 8) 80 9 [.ref (w.2.2 13), P_zl x.1, P_un, P_z x.2, P_z 15, P_un, P_un] [] σ Q := by
  have hsz := hC.2.1
  refine P_aw_op (L' := [.ref (w.2.2 13), P_zl x.1, P_un, P_z x.2, P_z 15, P_un, P_un]) (st' := [P_z 15]) P_i80_9 rfl (show P_aw _ _ _ 11 [.ref (w.2.2 13), P_zl x.1, P_un, P_z x.2, P_z 15, P_un, P_un] [P_z 15] _ _ from ?_)
  refine P_aw_gst P_i80_11 (show P_aw _ _ _ 14 [.ref (w.2.2 13), P_zl x.1, P_un, P_z x.2, P_z 15, P_un, P_un] [.ref 1, P_z 15] _ _ from ?_)
  refine P_aw_olen P_i80_14 (show P_aw _ _ _ 15 [.ref (w.2.2 13), P_zl x.1, P_un, P_z x.2, P_z 15, P_un, P_un] [P_z 18, P_z 15] _ _ from ?_)
  refine P_aw_icf P_i80_15 ⟨by decide, by decide⟩ ⟨by decide, by decide⟩ (P_ci_gef (by omega)) (show P_aw _ _ _ 18 [.ref (w.2.2 13), P_zl x.1, P_un, P_z x.2, P_z 15, P_un, P_un] [] _ _ from ?_)
  refine P_aw_op (L' := [.ref (w.2.2 13), P_zl x.1, P_un, P_z x.2, P_z 15, P_un, P_un]) (st' := [.ref (w.2.2 13)]) P_i80_18 rfl (show P_aw _ _ _ 19 [.ref (w.2.2 13), P_zl x.1, P_un, P_z x.2, P_z 15, P_un, P_un] [.ref (w.2.2 13)] _ _ from ?_)
  refine P_aw_op (L' := [.ref (w.2.2 13), P_zl x.1, P_un, P_z x.2, P_z 15, P_un, P_un]) (st' := [P_z 15, .ref (w.2.2 13)]) P_i80_19 rfl (show P_aw _ _ _ 21 [.ref (w.2.2 13), P_zl x.1, P_un, P_z x.2, P_z 15, P_un, P_un] [P_z 15, .ref (w.2.2 13)] _ _ from ?_)
  refine P_aw_call P_i80_21 rfl rfl (fun _ => rfl) rfl rfl rfl rfl (y2 := 81) (as := [.ref (w.2.2 13), P_z 15]) (r0 := []) (P_inv_v (hw.2.1 13 (by decide)) (hw.s rfl) rfl rfl) (Nat.le_of_ble_eq_true rfl) (by decide) rfl (Nat.le_of_ble_eq_true rfl) (show P_aw _ _ _ 0 [.ref (w.2.2 13), P_z 15, P_un] [] _ _ from ?_)
  refine P_aw_op (L' := [.ref (w.2.2 13), P_z 15, P_un]) (st' := [.ref (w.2.2 13)]) P_i81_0 rfl (show P_aw _ _ _ 1 [.ref (w.2.2 13), P_z 15, P_un] [.ref (w.2.2 13)] _ _ from ?_)
  refine P_aw_getR P_i81_1 (hw.2.1 13 (by decide)) (hw.s rfl) rfl rfl (show P_aw _ _ _ 4 [.ref (w.2.2 13), P_z 15, P_un] [.ref (w.2.2 6)] _ _ from ?_)
  refine P_aw_call P_i81_4 rfl rfl (fun _ => rfl) rfl rfl rfl rfl (y2 := 30) (as := [.ref (w.2.2 6)]) (r0 := []) (P_inv_v (hw.2.1 6 (by decide)) (hw.s rfl) rfl rfl) (Nat.le_of_ble_eq_true rfl) (by decide) rfl (Nat.le_of_ble_eq_true rfl) (show P_aw _ _ _ 0 [.ref (w.2.2 6)] [] _ _ from ?_)
  refine P_aw_op (L' := [.ref (w.2.2 6)]) (st' := [.ref (w.2.2 6)]) P_i30_0 rfl (show P_aw _ _ _ 1 [.ref (w.2.2 6)] [.ref (w.2.2 6)] _ _ from ?_)
  have hg1 := hA.2.1
  refine P_aw_getv P_i30_1 (hw.2.1 6 (by decide)) (hw.s rfl) rfl rfl (hA.1) (show P_aw _ _ _ 4 [.ref (w.2.2 6)] [P_z 3] _ _ from ?_)
  refine P_aw_end P_i30_4 rfl rfl (fun _ => rfl) rfl ?_
  show P_aw _ _ _ 7 [.ref (w.2.2 13), P_z 15, P_un] [P_z 3] _ _
  refine P_aw_op (L' := [.ref (w.2.2 13), P_z 15, P_z 3]) (st' := []) P_i81_7 rfl (show P_aw _ _ _ 8 [P_un, P_z 15, P_z 3] [] _ _ from ?_)
  refine P_aw_op (L' := [P_un, P_z 15, P_z 3]) (st' := [P_z 3]) P_i81_8 rfl (show P_aw _ _ _ 9 [P_un, P_z 15, P_z 3] [P_z 3] _ _ from ?_)
  refine P_aw_op (L' := [P_un, P_z 15, P_z 3]) (st' := [P_z 3, P_z 3]) P_i81_9 rfl (show P_aw _ _ _ 10 [P_un, P_z 15, P_z 3] [P_z 3, P_z 3] _ _ from ?_)
  refine P_aw_ict P_i81_10 ⟨by decide, by decide⟩ ⟨by decide, by decide⟩ (P_ci_get (by omega)) (show P_aw _ _ _ 34 [P_un, P_z 15, P_z 3] [] _ _ from ?_)
  refine P_aw_op (L' := [P_un, P_z 15, P_z 3]) (st' := [P_z 1]) P_i81_34 rfl (show P_aw _ _ _ 35 [P_un, P_z 15, P_z 3] [P_z 1] _ _ from ?_)
  refine P_aw_end P_i81_35 rfl rfl (fun _ => rfl) rfl ?_
  show P_aw _ _ _ 24 [.ref (w.2.2 13), P_zl x.1, P_un, P_z x.2, P_z 15, P_un, P_un] [P_z 1] _ _
  refine P_aw_izt P_i80_24 ⟨by decide, by decide⟩ (P_ci_net (by omega)) (show P_aw _ _ _ 30 [.ref (w.2.2 13), P_zl x.1, P_un, P_z x.2, P_z 15, P_un, P_un] [] _ _ from ?_)
  refine P_aw_op (L' := [.ref (w.2.2 13), P_zl x.1, P_un, P_z x.2, P_z 15, P_un, P_un]) (st' := [.ref (w.2.2 13)]) P_i80_30 rfl (show P_aw _ _ _ 31 [.ref (w.2.2 13), P_zl x.1, P_un, P_z x.2, P_z 15, P_un, P_un] [.ref (w.2.2 13)] _ _ from ?_)
  refine P_aw_op (L' := [.ref (w.2.2 13), P_zl x.1, P_un, P_z x.2, P_z 15, P_un, P_un]) (st' := [P_z 15, .ref (w.2.2 13)]) P_i80_31 rfl (show P_aw _ _ _ 33 [.ref (w.2.2 13), P_zl x.1, P_un, P_z x.2, P_z 15, P_un, P_un] [P_z 15, .ref (w.2.2 13)] _ _ from ?_)
  refine P_aw_call P_i80_33 rfl rfl (fun _ => rfl) rfl rfl rfl rfl (y2 := 82) (as := [.ref (w.2.2 13), P_z 15]) (r0 := []) (P_inv_v (hw.2.1 13 (by decide)) (hw.s rfl) rfl rfl) (Nat.le_of_ble_eq_true rfl) (by decide) rfl (Nat.le_of_ble_eq_true rfl) (s_bi hw (by omega) hC hs ?_)
  show P_aw _ _ _ 36 [.ref (w.2.2 13), P_zl x.1, P_un, P_z x.2, P_z 15, P_un, P_un] [] _ _
  refine P_aw_op (L' := [.ref (w.2.2 13), P_zl x.1, P_un, P_z x.2, P_z 15, P_un, P_un]) (st' := [.ref (w.2.2 13)]) P_i80_36 rfl (show P_aw _ _ _ 37 [.ref (w.2.2 13), P_zl x.1, P_un, P_z x.2, P_z 15, P_un, P_un] [.ref (w.2.2 13)] _ _ from ?_)
  have hp2 := A_cst_rg (nv := nv) (sz := sz) (cL := cL) (cS := cS) (cR := cR) hA hs
  refine P_aw_call P_i80_37 rfl rfl (fun _ => rfl) rfl rfl rfl rfl (y2 := 67) (as := [.ref (w.2.2 13)]) (r0 := []) (P_inv_v (hw.2.1 13 (by decide)) (hw.s rfl) rfl rfl) (Nat.le_of_ble_eq_true rfl) (by decide) rfl (Nat.le_of_ble_eq_true rfl) (s_cost hw (A_V_bi (by omega) hA) (A_O_bi (by omega) hs (by omega)) (A_C_bi hC) ((A_bi_ne (by omega) (by omega)).trans hN) hn01 ?_)
  show P_aw _ _ _ 40 [.ref (w.2.2 13), P_zl x.1, P_un, P_z x.2, P_z 15, P_un, P_un] [P_zl ((A_cst rw vr nv 3 sz cL cS cR) 15)] _ _
  refine P_aw_op (L' := [.ref (w.2.2 13), P_zl x.1, P_un, P_z x.2, P_z 15, P_zl ((A_cst rw vr nv 3 sz cL cS cR) 15), P_un]) (st' := []) P_i80_40 rfl (show P_aw _ _ _ 42 [.ref (w.2.2 13), P_zl x.1, P_un, P_z x.2, P_z 15, P_zl ((A_cst rw vr nv 3 sz cL cS cR) 15), P_un] [] _ _ from ?_)
  refine P_aw_op (L' := [.ref (w.2.2 13), P_zl x.1, P_un, P_z x.2, P_z 15, P_zl ((A_cst rw vr nv 3 sz cL cS cR) 15), P_un]) (st' := [P_zl x.1]) P_i80_42 rfl (show P_aw _ _ _ 43 [.ref (w.2.2 13), P_zl x.1, P_un, P_z x.2, P_z 15, P_zl ((A_cst rw vr nv 3 sz cL cS cR) 15), P_un] [P_zl x.1] _ _ from ?_)
  refine P_aw_op (L' := [.ref (w.2.2 13), P_zl x.1, P_un, P_z x.2, P_z 15, P_zl ((A_cst rw vr nv 3 sz cL cS cR) 15), P_un]) (st' := [P_zl (-1), P_zl x.1]) P_i80_43 rfl (show P_aw _ _ _ 46 [.ref (w.2.2 13), P_zl x.1, P_un, P_z x.2, P_z 15, P_zl ((A_cst rw vr nv 3 sz cL cS cR) 15), P_un] [P_zl (-1), P_zl x.1] _ _ from ?_)
  by_cases hc3 : x.1 = (-1)
  · refine P_aw_lct P_i80_46 P_i80_47 ⟨by omega, by omega⟩ ⟨by decide, by decide⟩ (P_ci_eqt (by omega)) (show P_aw _ _ _ 57 [.ref (w.2.2 13), P_zl x.1, P_un, P_z x.2, P_z 15, P_zl ((A_cst rw vr nv 3 sz cL cS cR) 15), P_un] [] _ _ from ?_)
    refine P_aw_op (L' := [.ref (w.2.2 13), P_zl x.1, P_un, P_z x.2, P_z 15, P_zl ((A_cst rw vr nv 3 sz cL cS cR) 15), P_un]) (st' := [P_zl ((A_cst rw vr nv 3 sz cL cS cR) 15)]) P_i80_57 rfl (show P_aw _ _ _ 59 [.ref (w.2.2 13), P_zl x.1, P_un, P_z x.2, P_z 15, P_zl ((A_cst rw vr nv 3 sz cL cS cR) 15), P_un] [P_zl ((A_cst rw vr nv 3 sz cL cS cR) 15)] _ _ from ?_)
    refine P_aw_op (L' := [.ref (w.2.2 13), P_zl ((A_cst rw vr nv 3 sz cL cS cR) 15), P_un, P_z x.2, P_z 15, P_zl ((A_cst rw vr nv 3 sz cL cS cR) 15), P_un]) (st' := []) P_i80_59 rfl (show P_aw _ _ _ 60 [.ref (w.2.2 13), P_zl ((A_cst rw vr nv 3 sz cL cS cR) 15), P_un, P_z x.2, P_z 15, P_zl ((A_cst rw vr nv 3 sz cL cS cR) 15), P_un] [] _ _ from ?_)
    refine P_aw_op (L' := [.ref (w.2.2 13), P_zl ((A_cst rw vr nv 3 sz cL cS cR) 15), P_un, P_z x.2, P_z 15, P_zl ((A_cst rw vr nv 3 sz cL cS cR) 15), P_un]) (st' := [P_z 15]) P_i80_60 rfl (show P_aw _ _ _ 62 [.ref (w.2.2 13), P_zl ((A_cst rw vr nv 3 sz cL cS cR) 15), P_un, P_z x.2, P_z 15, P_zl ((A_cst rw vr nv 3 sz cL cS cR) 15), P_un] [P_z 15] _ _ from ?_)
    refine P_aw_op (L' := [.ref (w.2.2 13), P_zl ((A_cst rw vr nv 3 sz cL cS cR) 15), P_un, P_z 15, P_z 15, P_zl ((A_cst rw vr nv 3 sz cL cS cR) 15), P_un]) (st' := []) P_i80_62 rfl (show P_aw _ _ _ 63 [.ref (w.2.2 13), P_zl ((A_cst rw vr nv 3 sz cL cS cR) 15), P_un, P_z 15, P_z 15, P_zl ((A_cst rw vr nv 3 sz cL cS cR) 15), P_un] [] _ _ from ?_)
    refine P_aw_op (L' := [.ref (w.2.2 13), P_zl ((A_cst rw vr nv 3 sz cL cS cR) 15), P_un, P_z 15, P_z 18, P_zl ((A_cst rw vr nv 3 sz cL cS cR) 15), P_un]) (st' := []) P_i80_63 (P_o_iincv (x := 15) rfl (by decide)) (show P_aw _ _ _ 66 [.ref (w.2.2 13), P_zl ((A_cst rw vr nv 3 sz cL cS cR) 15), P_un, P_z 15, P_z 18, P_zl ((A_cst rw vr nv 3 sz cL cS cR) 15), P_un] [] _ _ from ?_)
    refine P_aw_goto P_i80_66 (show P_aw _ _ _ 9 [.ref (w.2.2 13), P_zl ((A_cst rw vr nv 3 sz cL cS cR) 15), P_un, P_z 15, P_z 18, P_un, P_un] [] _ _ from ?_)
    exact (by simp only [A_bt] at q; first | (rw [if_pos (by omega)] at q; exact q) | (rw [if_neg (by omega)] at q; exact q))
  · refine P_aw_lcf P_i80_46 P_i80_47 ⟨by omega, by omega⟩ ⟨by decide, by decide⟩ (P_ci_eqf (by omega)) (show P_aw _ _ _ 50 [.ref (w.2.2 13), P_zl x.1, P_un, P_z x.2, P_z 15, P_zl ((A_cst rw vr nv 3 sz cL cS cR) 15), P_un] [] _ _ from ?_)
    refine P_aw_op (L' := [.ref (w.2.2 13), P_zl x.1, P_un, P_z x.2, P_z 15, P_zl ((A_cst rw vr nv 3 sz cL cS cR) 15), P_un]) (st' := [P_zl ((A_cst rw vr nv 3 sz cL cS cR) 15)]) P_i80_50 rfl (show P_aw _ _ _ 52 [.ref (w.2.2 13), P_zl x.1, P_un, P_z x.2, P_z 15, P_zl ((A_cst rw vr nv 3 sz cL cS cR) 15), P_un] [P_zl ((A_cst rw vr nv 3 sz cL cS cR) 15)] _ _ from ?_)
    refine P_aw_op (L' := [.ref (w.2.2 13), P_zl x.1, P_un, P_z x.2, P_z 15, P_zl ((A_cst rw vr nv 3 sz cL cS cR) 15), P_un]) (st' := [P_zl x.1, P_zl ((A_cst rw vr nv 3 sz cL cS cR) 15)]) P_i80_52 rfl (show P_aw _ _ _ 53 [.ref (w.2.2 13), P_zl x.1, P_un, P_z x.2, P_z 15, P_zl ((A_cst rw vr nv 3 sz cL cS cR) 15), P_un] [P_zl x.1, P_zl ((A_cst rw vr nv 3 sz cL cS cR) 15)] _ _ from ?_)
    rcases Int.lt_or_le ((A_cst rw vr nv 3 sz cL cS cR) 15) x.1 with hc4 | hc4
    · refine P_aw_lcf P_i80_53 P_i80_54 ⟨by omega, by omega⟩ ⟨by omega, by omega⟩ (P_ci_gef (by omega)) (show P_aw _ _ _ 57 [.ref (w.2.2 13), P_zl x.1, P_un, P_z x.2, P_z 15, P_zl ((A_cst rw vr nv 3 sz cL cS cR) 15), P_un] [] _ _ from ?_)
      refine P_aw_op (L' := [.ref (w.2.2 13), P_zl x.1, P_un, P_z x.2, P_z 15, P_zl ((A_cst rw vr nv 3 sz cL cS cR) 15), P_un]) (st' := [P_zl ((A_cst rw vr nv 3 sz cL cS cR) 15)]) P_i80_57 rfl (show P_aw _ _ _ 59 [.ref (w.2.2 13), P_zl x.1, P_un, P_z x.2, P_z 15, P_zl ((A_cst rw vr nv 3 sz cL cS cR) 15), P_un] [P_zl ((A_cst rw vr nv 3 sz cL cS cR) 15)] _ _ from ?_)
      refine P_aw_op (L' := [.ref (w.2.2 13), P_zl ((A_cst rw vr nv 3 sz cL cS cR) 15), P_un, P_z x.2, P_z 15, P_zl ((A_cst rw vr nv 3 sz cL cS cR) 15), P_un]) (st' := []) P_i80_59 rfl (show P_aw _ _ _ 60 [.ref (w.2.2 13), P_zl ((A_cst rw vr nv 3 sz cL cS cR) 15), P_un, P_z x.2, P_z 15, P_zl ((A_cst rw vr nv 3 sz cL cS cR) 15), P_un] [] _ _ from ?_)
      refine P_aw_op (L' := [.ref (w.2.2 13), P_zl ((A_cst rw vr nv 3 sz cL cS cR) 15), P_un, P_z x.2, P_z 15, P_zl ((A_cst rw vr nv 3 sz cL cS cR) 15), P_un]) (st' := [P_z 15]) P_i80_60 rfl (show P_aw _ _ _ 62 [.ref (w.2.2 13), P_zl ((A_cst rw vr nv 3 sz cL cS cR) 15), P_un, P_z x.2, P_z 15, P_zl ((A_cst rw vr nv 3 sz cL cS cR) 15), P_un] [P_z 15] _ _ from ?_)
      refine P_aw_op (L' := [.ref (w.2.2 13), P_zl ((A_cst rw vr nv 3 sz cL cS cR) 15), P_un, P_z 15, P_z 15, P_zl ((A_cst rw vr nv 3 sz cL cS cR) 15), P_un]) (st' := []) P_i80_62 rfl (show P_aw _ _ _ 63 [.ref (w.2.2 13), P_zl ((A_cst rw vr nv 3 sz cL cS cR) 15), P_un, P_z 15, P_z 15, P_zl ((A_cst rw vr nv 3 sz cL cS cR) 15), P_un] [] _ _ from ?_)
      refine P_aw_op (L' := [.ref (w.2.2 13), P_zl ((A_cst rw vr nv 3 sz cL cS cR) 15), P_un, P_z 15, P_z 18, P_zl ((A_cst rw vr nv 3 sz cL cS cR) 15), P_un]) (st' := []) P_i80_63 (P_o_iincv (x := 15) rfl (by decide)) (show P_aw _ _ _ 66 [.ref (w.2.2 13), P_zl ((A_cst rw vr nv 3 sz cL cS cR) 15), P_un, P_z 15, P_z 18, P_zl ((A_cst rw vr nv 3 sz cL cS cR) 15), P_un] [] _ _ from ?_)
      refine P_aw_goto P_i80_66 (show P_aw _ _ _ 9 [.ref (w.2.2 13), P_zl ((A_cst rw vr nv 3 sz cL cS cR) 15), P_un, P_z 15, P_z 18, P_un, P_un] [] _ _ from ?_)
      exact (by simp only [A_bt] at q; first | (rw [if_pos (by omega)] at q; exact q) | (rw [if_neg (by omega)] at q; exact q))
    · refine P_aw_lct P_i80_53 P_i80_54 ⟨by omega, by omega⟩ ⟨by omega, by omega⟩ (P_ci_get (by omega)) (show P_aw _ _ _ 63 [.ref (w.2.2 13), P_zl x.1, P_un, P_z x.2, P_z 15, P_zl ((A_cst rw vr nv 3 sz cL cS cR) 15), P_un] [] _ _ from ?_)
      refine P_aw_op (L' := [.ref (w.2.2 13), P_zl x.1, P_un, P_z x.2, P_z 18, P_zl ((A_cst rw vr nv 3 sz cL cS cR) 15), P_un]) (st' := []) P_i80_63 (P_o_iincv (x := 15) rfl (by decide)) (show P_aw _ _ _ 66 [.ref (w.2.2 13), P_zl x.1, P_un, P_z x.2, P_z 18, P_zl ((A_cst rw vr nv 3 sz cL cS cR) 15), P_un] [] _ _ from ?_)
      refine P_aw_goto P_i80_66 (show P_aw _ _ _ 9 [.ref (w.2.2 13), P_zl x.1, P_un, P_z x.2, P_z 18, P_un, P_un] [] _ _ from ?_)
      exact (by simp only [A_bt] at q; first | (rw [if_pos (by omega)] at q; exact q) | (rw [if_neg (by omega)] at q; exact q))

theorem s_be3 {w : P_Lw} (hw : P_Cw w) {d : Nat} {Q : P_R → P_A → Prop} {σ : P_A} {tb : Int → Nat} {rw : Int → Int} {vr : Int → Int → Int} (hA : A_V w σ 3 tb rw vr) {sz : Int} {cL cS cR cV : Int → Int} (hC : A_C σ 3 sz cL cS cR cV) {nv : Int} (hN : σ 13 5 = nv) (hn01 : 0 ≤ nv ∧ nv ≤ 1) {x : Int × Int} (hx : -1 ≤ x.1 ∧ x.1 ≤ 3000) (hs : A_isO 3 x.2) (q : Q (.inl (some (P_zl x.1))) (A_bi σ x.2 sz cL cR)) : P_aw w (d + 8) 80 9 [.ref (w.2.2 13), P_zl x.1, P_un, P_z x.2, P_z 18, P_un, P_un] [] σ Q := by
  have hsz := hC.2.1
  refine P_aw_op (L' := [.ref (w.2.2 13), P_zl x.1, P_un, P_z x.2, P_z 18, P_un, P_un]) (st' := [P_z 18]) P_i80_9 rfl (show P_aw _ _ _ 11 [.ref (w.2.2 13), P_zl x.1, P_un, P_z x.2, P_z 18, P_un, P_un] [P_z 18] _ _ from ?_)
  refine P_aw_gst P_i80_11 (show P_aw _ _ _ 14 [.ref (w.2.2 13), P_zl x.1, P_un, P_z x.2, P_z 18, P_un, P_un] [.ref 1, P_z 18] _ _ from ?_)
  refine P_aw_olen P_i80_14 (show P_aw _ _ _ 15 [.ref (w.2.2 13), P_zl x.1, P_un, P_z x.2, P_z 18, P_un, P_un] [P_z 18, P_z 18] _ _ from ?_)
  refine P_aw_ict P_i80_15 ⟨by decide, by decide⟩ ⟨by decide, by decide⟩ (P_ci_get (by omega)) (show P_aw _ _ _ 69 [.ref (w.2.2 13), P_zl x.1, P_un, P_z x.2, P_z 18, P_un, P_un] [] _ _ from ?_)
  refine P_aw_op (L' := [.ref (w.2.2 13), P_zl x.1, P_un, P_z x.2, P_z 18, P_un, P_un]) (st' := [.ref (w.2.2 13)]) P_i80_69 rfl (show P_aw _ _ _ 70 [.ref (w.2.2 13), P_zl x.1, P_un, P_z x.2, P_z 18, P_un, P_un] [.ref (w.2.2 13)] _ _ from ?_)
  refine P_aw_op (L' := [.ref (w.2.2 13), P_zl x.1, P_un, P_z x.2, P_z 18, P_un, P_un]) (st' := [P_z x.2, .ref (w.2.2 13)]) P_i80_70 rfl (show P_aw _ _ _ 71 [.ref (w.2.2 13), P_zl x.1, P_un, P_z x.2, P_z 18, P_un, P_un] [P_z x.2, .ref (w.2.2 13)] _ _ from ?_)
  refine P_aw_call P_i80_71 rfl rfl (fun _ => rfl) rfl rfl rfl rfl (y2 := 82) (as := [.ref (w.2.2 13), P_z x.2]) (r0 := []) (P_inv_v (hw.2.1 13 (by decide)) (hw.s rfl) rfl rfl) (Nat.le_of_ble_eq_true rfl) (by decide) rfl (Nat.le_of_ble_eq_true rfl) (s_bi hw (by omega) hC hs ?_)
  show P_aw _ _ _ 74 [.ref (w.2.2 13), P_zl x.1, P_un, P_z x.2, P_z 18, P_un, P_un] [] _ _
  refine P_aw_op (L' := [.ref (w.2.2 13), P_zl x.1, P_un, P_z x.2, P_z 18, P_un, P_un]) (st' := [P_zl x.1]) P_i80_74 rfl (show P_aw _ _ _ 75 [.ref (w.2.2 13), P_zl x.1, P_un, P_z x.2, P_z 18, P_un, P_un] [P_zl x.1] _ _ from ?_)
  refine P_aw_end P_i80_75 rfl rfl (fun _ => rfl) rfl ?_
  exact q

/-- the cheapest order, the first of them -/
def A_best (cst : Int → Int) (ns : Int) : Int × Int := (if ns = 1 then [0] else if ns = 2 then [0, 6] else [0, 3, 6, 9, 12, 15]).foldl (fun x s => A_bt cst s x) (-1, 0)
theorem A_bt_rg {cst : Int → Int} {s : Int} {x : Int × Int} (h : -1 ≤ x.1 ∧ x.1 ≤ 3000) (hc : 0 ≤ cst s ∧ cst s ≤ 3000) : -1 ≤ (A_bt cst s x).1 ∧ (A_bt cst s x).1 ≤ 3000 := by
  unfold A_bt
  split
  · exact ⟨by have := hc.1; simp only; omega, hc.2⟩
  · exact h
theorem A_bt_O {cst : Int → Int} {ns s : Int} {x : Int × Int} (h : A_isO ns x.2) (hs : A_isO ns s) : A_isO ns (A_bt cst s x).2 := by
  unfold A_bt
  split
  · exact hs
  · exact h
set_option maxHeartbeats 1000000 in
theorem s_best1 {w : P_Lw} (hw : P_Cw w) {d : Nat} {Q : P_R → P_A → Prop} {σ : P_A} {tb : Int → Nat} {rw : Int → Int} {vr : Int → Int → Int} (hA : A_V w σ 1 tb rw vr) {sz : Int} {cL cS cR cV : Int → Int} (hC : A_C σ 1 sz cL cS cR cV) {nv : Int} (hN : σ 13 5 = nv) (hn01 : 0 ≤ nv ∧ nv ≤ 1) (q : Q (.inl (some (P_zl (A_best (A_cst rw vr nv 1 sz cL cS cR) 1).1))) (A_bi σ (A_best (A_cst rw vr nv 1 sz cL cS cR) 1).2 sz cL cR)) : P_aw w (d + 8) 80 0 [.ref (w.2.2 13), P_un, P_un, P_un, P_un, P_un, P_un] [] σ Q := by
  refine P_aw_op (L' := [.ref (w.2.2 13), P_un, P_un, P_un, P_un, P_un, P_un]) (st' := [P_zl (-1)]) P_i80_0 rfl (show P_aw _ _ _ 3 [.ref (w.2.2 13), P_un, P_un, P_un, P_un, P_un, P_un] [P_zl (-1)] _ _ from ?_)
  refine P_aw_op (L' := [.ref (w.2.2 13), P_zl (-1), P_un, P_un, P_un, P_un, P_un]) (st' := []) P_i80_3 rfl (show P_aw _ _ _ 4 [.ref (w.2.2 13), P_zl (-1), P_un, P_un, P_un, P_un, P_un] [] _ _ from ?_)
  refine P_aw_op (L' := [.ref (w.2.2 13), P_zl (-1), P_un, P_un, P_un, P_un, P_un]) (st' := [P_z 0]) P_i80_4 rfl (show P_aw _ _ _ 5 [.ref (w.2.2 13), P_zl (-1), P_un, P_un, P_un, P_un, P_un] [P_z 0] _ _ from ?_)
  refine P_aw_op (L' := [.ref (w.2.2 13), P_zl (-1), P_un, P_z 0, P_un, P_un, P_un]) (st' := []) P_i80_5 rfl (show P_aw _ _ _ 6 [.ref (w.2.2 13), P_zl (-1), P_un, P_z 0, P_un, P_un, P_un] [] _ _ from ?_)
  refine P_aw_op (L' := [.ref (w.2.2 13), P_zl (-1), P_un, P_z 0, P_un, P_un, P_un]) (st' := [P_z 0]) P_i80_6 rfl (show P_aw _ _ _ 7 [.ref (w.2.2 13), P_zl (-1), P_un, P_z 0, P_un, P_un, P_un] [P_z 0] _ _ from ?_)
  refine P_aw_op (L' := [.ref (w.2.2 13), P_zl (-1), P_un, P_z 0, P_z 0, P_un, P_un]) (st' := []) P_i80_7 rfl (show P_aw _ _ _ 9 [.ref (w.2.2 13), P_zl (-1), P_un, P_z 0, P_z 0, P_un, P_un] [] _ _ from ?_)
  have hz := hC.2.1
  have ho0 : A_isO 1 0 := by unfold A_isO; omega
  have hc0 := A_cst_rg (nv := nv) (sz := sz) (cL := cL) (cS := cS) (cR := cR) hA ho0
  refine s_bt1_0 (x := ((-1, 0) : Int × Int)) hw hA hC hN hn01 (show -1 ≤ ((-1, 0) : Int × Int).1 ∧ ((-1, 0) : Int × Int).1 ≤ 3000 by decide) ho0 ?_
  have hX0 := A_bt_rg (cst := (A_cst rw vr nv 1 sz cL cS cR)) (s := 0) (show -1 ≤ ((-1, 0) : Int × Int).1 ∧ ((-1, 0) : Int × Int).1 ≤ 3000 by decide) hc0
  have hO0 : A_isO 1 _ := A_bt_O (cst := (A_cst rw vr nv 1 sz cL cS cR)) (x := ((-1, 0) : Int × Int)) ho0 ho0
  refine s_bt1_3 (x := (A_bt (A_cst rw vr nv 1 sz cL cS cR) 0 ((-1, 0) : Int × Int))) hw (A_V_bi (s := 0) (cL := cL) (cR := cR) hz.2 hA) (A_C_bi (s := 0) hC) ((A_bi_ne (s := 0) (sz := sz) (cL := cL) (cR := cR) (by omega) (by omega)).trans hN) hn01 hX0 ?_
  refine s_bt1_6 (x := (A_bt (A_cst rw vr nv 1 sz cL cS cR) 0 ((-1, 0) : Int × Int))) hw (A_V_bi (s := 0) (cL := cL) (cR := cR) hz.2 hA) (A_C_bi (s := 0) hC) ((A_bi_ne (s := 0) (sz := sz) (cL := cL) (cR := cR) (by omega) (by omega)).trans hN) hn01 hX0 ?_
  refine s_bt1_9 (x := (A_bt (A_cst rw vr nv 1 sz cL cS cR) 0 ((-1, 0) : Int × Int))) hw (A_V_bi (s := 0) (cL := cL) (cR := cR) hz.2 hA) (A_C_bi (s := 0) hC) ((A_bi_ne (s := 0) (sz := sz) (cL := cL) (cR := cR) (by omega) (by omega)).trans hN) hn01 hX0 ?_
  refine s_bt1_12 (x := (A_bt (A_cst rw vr nv 1 sz cL cS cR) 0 ((-1, 0) : Int × Int))) hw (A_V_bi (s := 0) (cL := cL) (cR := cR) hz.2 hA) (A_C_bi (s := 0) hC) ((A_bi_ne (s := 0) (sz := sz) (cL := cL) (cR := cR) (by omega) (by omega)).trans hN) hn01 hX0 ?_
  refine s_bt1_15 (x := (A_bt (A_cst rw vr nv 1 sz cL cS cR) 0 ((-1, 0) : Int × Int))) hw (A_V_bi (s := 0) (cL := cL) (cR := cR) hz.2 hA) (A_C_bi (s := 0) hC) ((A_bi_ne (s := 0) (sz := sz) (cL := cL) (cR := cR) (by omega) (by omega)).trans hN) hn01 hX0 ?_
  refine s_be1 (x := (A_bt (A_cst rw vr nv 1 sz cL cS cR) 0 ((-1, 0) : Int × Int))) hw (A_V_bi (s := 0) (cL := cL) (cR := cR) hz.2 hA) (A_C_bi (s := 0) hC) ((A_bi_ne (s := 0) (sz := sz) (cL := cL) (cR := cR) (by omega) (by omega)).trans hN) hn01 hX0 hO0 ?_
  have hq : Q (.inl (some (P_zl (A_bt (A_cst rw vr nv 1 sz cL cS cR) 0 ((-1, 0) : Int × Int)).1))) (A_bi σ (A_bt (A_cst rw vr nv 1 sz cL cS cR) 0 ((-1, 0) : Int × Int)).2 sz cL cR) := q
  simp only [A_bi_bi]
  exact hq

set_option maxHeartbeats 1000000 in
theorem s_best2 {w : P_Lw} (hw : P_Cw w) {d : Nat} {Q : P_R → P_A → Prop} {σ : P_A} {tb : Int → Nat} {rw : Int → Int} {vr : Int → Int → Int} (hA : A_V w σ 2 tb rw vr) {sz : Int} {cL cS cR cV : Int → Int} (hC : A_C σ 2 sz cL cS cR cV) {nv : Int} (hN : σ 13 5 = nv) (hn01 : 0 ≤ nv ∧ nv ≤ 1) (q : Q (.inl (some (P_zl (A_best (A_cst rw vr nv 2 sz cL cS cR) 2).1))) (A_bi σ (A_best (A_cst rw vr nv 2 sz cL cS cR) 2).2 sz cL cR)) : P_aw w (d + 8) 80 0 [.ref (w.2.2 13), P_un, P_un, P_un, P_un, P_un, P_un] [] σ Q := by
  refine P_aw_op (L' := [.ref (w.2.2 13), P_un, P_un, P_un, P_un, P_un, P_un]) (st' := [P_zl (-1)]) P_i80_0 rfl (show P_aw _ _ _ 3 [.ref (w.2.2 13), P_un, P_un, P_un, P_un, P_un, P_un] [P_zl (-1)] _ _ from ?_)
  refine P_aw_op (L' := [.ref (w.2.2 13), P_zl (-1), P_un, P_un, P_un, P_un, P_un]) (st' := []) P_i80_3 rfl (show P_aw _ _ _ 4 [.ref (w.2.2 13), P_zl (-1), P_un, P_un, P_un, P_un, P_un] [] _ _ from ?_)
  refine P_aw_op (L' := [.ref (w.2.2 13), P_zl (-1), P_un, P_un, P_un, P_un, P_un]) (st' := [P_z 0]) P_i80_4 rfl (show P_aw _ _ _ 5 [.ref (w.2.2 13), P_zl (-1), P_un, P_un, P_un, P_un, P_un] [P_z 0] _ _ from ?_)
  refine P_aw_op (L' := [.ref (w.2.2 13), P_zl (-1), P_un, P_z 0, P_un, P_un, P_un]) (st' := []) P_i80_5 rfl (show P_aw _ _ _ 6 [.ref (w.2.2 13), P_zl (-1), P_un, P_z 0, P_un, P_un, P_un] [] _ _ from ?_)
  refine P_aw_op (L' := [.ref (w.2.2 13), P_zl (-1), P_un, P_z 0, P_un, P_un, P_un]) (st' := [P_z 0]) P_i80_6 rfl (show P_aw _ _ _ 7 [.ref (w.2.2 13), P_zl (-1), P_un, P_z 0, P_un, P_un, P_un] [P_z 0] _ _ from ?_)
  refine P_aw_op (L' := [.ref (w.2.2 13), P_zl (-1), P_un, P_z 0, P_z 0, P_un, P_un]) (st' := []) P_i80_7 rfl (show P_aw _ _ _ 9 [.ref (w.2.2 13), P_zl (-1), P_un, P_z 0, P_z 0, P_un, P_un] [] _ _ from ?_)
  have hz := hC.2.1
  have ho0 : A_isO 2 0 := by unfold A_isO; omega
  have hc0 := A_cst_rg (nv := nv) (sz := sz) (cL := cL) (cS := cS) (cR := cR) hA ho0
  have ho6 : A_isO 2 6 := by unfold A_isO; omega
  have hc6 := A_cst_rg (nv := nv) (sz := sz) (cL := cL) (cS := cS) (cR := cR) hA ho6
  refine s_bt2_0 (x := ((-1, 0) : Int × Int)) hw hA hC hN hn01 (show -1 ≤ ((-1, 0) : Int × Int).1 ∧ ((-1, 0) : Int × Int).1 ≤ 3000 by decide) ho0 ?_
  have hX0 := A_bt_rg (cst := (A_cst rw vr nv 2 sz cL cS cR)) (s := 0) (show -1 ≤ ((-1, 0) : Int × Int).1 ∧ ((-1, 0) : Int × Int).1 ≤ 3000 by decide) hc0
  have hO0 : A_isO 2 _ := A_bt_O (cst := (A_cst rw vr nv 2 sz cL cS cR)) (x := ((-1, 0) : Int × Int)) ho0 ho0
  refine s_bt2_3 (x := (A_bt (A_cst rw vr nv 2 sz cL cS cR) 0 ((-1, 0) : Int × Int))) hw (A_V_bi (s := 0) (cL := cL) (cR := cR) hz.2 hA) (A_C_bi (s := 0) hC) ((A_bi_ne (s := 0) (sz := sz) (cL := cL) (cR := cR) (by omega) (by omega)).trans hN) hn01 hX0 ?_
  refine s_bt2_6 (x := (A_bt (A_cst rw vr nv 2 sz cL cS cR) 0 ((-1, 0) : Int × Int))) hw (A_V_bi (s := 0) (cL := cL) (cR := cR) hz.2 hA) (A_C_bi (s := 0) hC) ((A_bi_ne (s := 0) (sz := sz) (cL := cL) (cR := cR) (by omega) (by omega)).trans hN) hn01 hX0 ho6 ?_
  have hX6 := A_bt_rg (cst := (A_cst rw vr nv 2 sz cL cS cR)) (s := 6) hX0 hc6
  have hO6 : A_isO 2 _ := A_bt_O (cst := (A_cst rw vr nv 2 sz cL cS cR)) (x := (A_bt (A_cst rw vr nv 2 sz cL cS cR) 0 ((-1, 0) : Int × Int))) hO0 ho6
  refine s_bt2_9 (x := (A_bt (A_cst rw vr nv 2 sz cL cS cR) 6 (A_bt (A_cst rw vr nv 2 sz cL cS cR) 0 ((-1, 0) : Int × Int)))) hw (A_V_bi (s := 6) (cL := cL) (cR := cR) hz.2 (A_V_bi (s := 0) (cL := cL) (cR := cR) hz.2 hA)) (A_C_bi (s := 6) (A_C_bi (s := 0) hC)) ((A_bi_ne (s := 6) (sz := sz) (cL := cL) (cR := cR) (by omega) (by omega)).trans ((A_bi_ne (s := 0) (sz := sz) (cL := cL) (cR := cR) (by omega) (by omega)).trans hN)) hn01 hX6 ?_
  refine s_bt2_12 (x := (A_bt (A_cst rw vr nv 2 sz cL cS cR) 6 (A_bt (A_cst rw vr nv 2 sz cL cS cR) 0 ((-1, 0) : Int × Int)))) hw (A_V_bi (s := 6) (cL := cL) (cR := cR) hz.2 (A_V_bi (s := 0) (cL := cL) (cR := cR) hz.2 hA)) (A_C_bi (s := 6) (A_C_bi (s := 0) hC)) ((A_bi_ne (s := 6) (sz := sz) (cL := cL) (cR := cR) (by omega) (by omega)).trans ((A_bi_ne (s := 0) (sz := sz) (cL := cL) (cR := cR) (by omega) (by omega)).trans hN)) hn01 hX6 ?_
  refine s_bt2_15 (x := (A_bt (A_cst rw vr nv 2 sz cL cS cR) 6 (A_bt (A_cst rw vr nv 2 sz cL cS cR) 0 ((-1, 0) : Int × Int)))) hw (A_V_bi (s := 6) (cL := cL) (cR := cR) hz.2 (A_V_bi (s := 0) (cL := cL) (cR := cR) hz.2 hA)) (A_C_bi (s := 6) (A_C_bi (s := 0) hC)) ((A_bi_ne (s := 6) (sz := sz) (cL := cL) (cR := cR) (by omega) (by omega)).trans ((A_bi_ne (s := 0) (sz := sz) (cL := cL) (cR := cR) (by omega) (by omega)).trans hN)) hn01 hX6 ?_
  refine s_be2 (x := (A_bt (A_cst rw vr nv 2 sz cL cS cR) 6 (A_bt (A_cst rw vr nv 2 sz cL cS cR) 0 ((-1, 0) : Int × Int)))) hw (A_V_bi (s := 6) (cL := cL) (cR := cR) hz.2 (A_V_bi (s := 0) (cL := cL) (cR := cR) hz.2 hA)) (A_C_bi (s := 6) (A_C_bi (s := 0) hC)) ((A_bi_ne (s := 6) (sz := sz) (cL := cL) (cR := cR) (by omega) (by omega)).trans ((A_bi_ne (s := 0) (sz := sz) (cL := cL) (cR := cR) (by omega) (by omega)).trans hN)) hn01 hX6 hO6 ?_
  have hq : Q (.inl (some (P_zl (A_bt (A_cst rw vr nv 2 sz cL cS cR) 6 (A_bt (A_cst rw vr nv 2 sz cL cS cR) 0 ((-1, 0) : Int × Int))).1))) (A_bi σ (A_bt (A_cst rw vr nv 2 sz cL cS cR) 6 (A_bt (A_cst rw vr nv 2 sz cL cS cR) 0 ((-1, 0) : Int × Int))).2 sz cL cR) := q
  simp only [A_bi_bi]
  exact hq

set_option maxHeartbeats 1000000 in
theorem s_best3 {w : P_Lw} (hw : P_Cw w) {d : Nat} {Q : P_R → P_A → Prop} {σ : P_A} {tb : Int → Nat} {rw : Int → Int} {vr : Int → Int → Int} (hA : A_V w σ 3 tb rw vr) {sz : Int} {cL cS cR cV : Int → Int} (hC : A_C σ 3 sz cL cS cR cV) {nv : Int} (hN : σ 13 5 = nv) (hn01 : 0 ≤ nv ∧ nv ≤ 1) (q : Q (.inl (some (P_zl (A_best (A_cst rw vr nv 3 sz cL cS cR) 3).1))) (A_bi σ (A_best (A_cst rw vr nv 3 sz cL cS cR) 3).2 sz cL cR)) : P_aw w (d + 8) 80 0 [.ref (w.2.2 13), P_un, P_un, P_un, P_un, P_un, P_un] [] σ Q := by
  refine P_aw_op (L' := [.ref (w.2.2 13), P_un, P_un, P_un, P_un, P_un, P_un]) (st' := [P_zl (-1)]) P_i80_0 rfl (show P_aw _ _ _ 3 [.ref (w.2.2 13), P_un, P_un, P_un, P_un, P_un, P_un] [P_zl (-1)] _ _ from ?_)
  refine P_aw_op (L' := [.ref (w.2.2 13), P_zl (-1), P_un, P_un, P_un, P_un, P_un]) (st' := []) P_i80_3 rfl (show P_aw _ _ _ 4 [.ref (w.2.2 13), P_zl (-1), P_un, P_un, P_un, P_un, P_un] [] _ _ from ?_)
  refine P_aw_op (L' := [.ref (w.2.2 13), P_zl (-1), P_un, P_un, P_un, P_un, P_un]) (st' := [P_z 0]) P_i80_4 rfl (show P_aw _ _ _ 5 [.ref (w.2.2 13), P_zl (-1), P_un, P_un, P_un, P_un, P_un] [P_z 0] _ _ from ?_)
  refine P_aw_op (L' := [.ref (w.2.2 13), P_zl (-1), P_un, P_z 0, P_un, P_un, P_un]) (st' := []) P_i80_5 rfl (show P_aw _ _ _ 6 [.ref (w.2.2 13), P_zl (-1), P_un, P_z 0, P_un, P_un, P_un] [] _ _ from ?_)
  refine P_aw_op (L' := [.ref (w.2.2 13), P_zl (-1), P_un, P_z 0, P_un, P_un, P_un]) (st' := [P_z 0]) P_i80_6 rfl (show P_aw _ _ _ 7 [.ref (w.2.2 13), P_zl (-1), P_un, P_z 0, P_un, P_un, P_un] [P_z 0] _ _ from ?_)
  refine P_aw_op (L' := [.ref (w.2.2 13), P_zl (-1), P_un, P_z 0, P_z 0, P_un, P_un]) (st' := []) P_i80_7 rfl (show P_aw _ _ _ 9 [.ref (w.2.2 13), P_zl (-1), P_un, P_z 0, P_z 0, P_un, P_un] [] _ _ from ?_)
  have hz := hC.2.1
  have ho0 : A_isO 3 0 := by unfold A_isO; omega
  have hc0 := A_cst_rg (nv := nv) (sz := sz) (cL := cL) (cS := cS) (cR := cR) hA ho0
  have ho3 : A_isO 3 3 := by unfold A_isO; omega
  have hc3 := A_cst_rg (nv := nv) (sz := sz) (cL := cL) (cS := cS) (cR := cR) hA ho3
  have ho6 : A_isO 3 6 := by unfold A_isO; omega
  have hc6 := A_cst_rg (nv := nv) (sz := sz) (cL := cL) (cS := cS) (cR := cR) hA ho6
  have ho9 : A_isO 3 9 := by unfold A_isO; omega
  have hc9 := A_cst_rg (nv := nv) (sz := sz) (cL := cL) (cS := cS) (cR := cR) hA ho9
  have ho12 : A_isO 3 12 := by unfold A_isO; omega
  have hc12 := A_cst_rg (nv := nv) (sz := sz) (cL := cL) (cS := cS) (cR := cR) hA ho12
  have ho15 : A_isO 3 15 := by unfold A_isO; omega
  have hc15 := A_cst_rg (nv := nv) (sz := sz) (cL := cL) (cS := cS) (cR := cR) hA ho15
  refine s_bt3_0 (x := ((-1, 0) : Int × Int)) hw hA hC hN hn01 (show -1 ≤ ((-1, 0) : Int × Int).1 ∧ ((-1, 0) : Int × Int).1 ≤ 3000 by decide) ho0 ?_
  have hX0 := A_bt_rg (cst := (A_cst rw vr nv 3 sz cL cS cR)) (s := 0) (show -1 ≤ ((-1, 0) : Int × Int).1 ∧ ((-1, 0) : Int × Int).1 ≤ 3000 by decide) hc0
  have hO0 : A_isO 3 _ := A_bt_O (cst := (A_cst rw vr nv 3 sz cL cS cR)) (x := ((-1, 0) : Int × Int)) ho0 ho0
  refine s_bt3_3 (x := (A_bt (A_cst rw vr nv 3 sz cL cS cR) 0 ((-1, 0) : Int × Int))) hw (A_V_bi (s := 0) (cL := cL) (cR := cR) hz.2 hA) (A_C_bi (s := 0) hC) ((A_bi_ne (s := 0) (sz := sz) (cL := cL) (cR := cR) (by omega) (by omega)).trans hN) hn01 hX0 ho3 ?_
  have hX3 := A_bt_rg (cst := (A_cst rw vr nv 3 sz cL cS cR)) (s := 3) hX0 hc3
  have hO3 : A_isO 3 _ := A_bt_O (cst := (A_cst rw vr nv 3 sz cL cS cR)) (x := (A_bt (A_cst rw vr nv 3 sz cL cS cR) 0 ((-1, 0) : Int × Int))) hO0 ho3
  refine s_bt3_6 (x := (A_bt (A_cst rw vr nv 3 sz cL cS cR) 3 (A_bt (A_cst rw vr nv 3 sz cL cS cR) 0 ((-1, 0) : Int × Int)))) hw (A_V_bi (s := 3) (cL := cL) (cR := cR) hz.2 (A_V_bi (s := 0) (cL := cL) (cR := cR) hz.2 hA)) (A_C_bi (s := 3) (A_C_bi (s := 0) hC)) ((A_bi_ne (s := 3) (sz := sz) (cL := cL) (cR := cR) (by omega) (by omega)).trans ((A_bi_ne (s := 0) (sz := sz) (cL := cL) (cR := cR) (by omega) (by omega)).trans hN)) hn01 hX3 ho6 ?_
  have hX6 := A_bt_rg (cst := (A_cst rw vr nv 3 sz cL cS cR)) (s := 6) hX3 hc6
  have hO6 : A_isO 3 _ := A_bt_O (cst := (A_cst rw vr nv 3 sz cL cS cR)) (x := (A_bt (A_cst rw vr nv 3 sz cL cS cR) 3 (A_bt (A_cst rw vr nv 3 sz cL cS cR) 0 ((-1, 0) : Int × Int)))) hO3 ho6
  refine s_bt3_9 (x := (A_bt (A_cst rw vr nv 3 sz cL cS cR) 6 (A_bt (A_cst rw vr nv 3 sz cL cS cR) 3 (A_bt (A_cst rw vr nv 3 sz cL cS cR) 0 ((-1, 0) : Int × Int))))) hw (A_V_bi (s := 6) (cL := cL) (cR := cR) hz.2 (A_V_bi (s := 3) (cL := cL) (cR := cR) hz.2 (A_V_bi (s := 0) (cL := cL) (cR := cR) hz.2 hA))) (A_C_bi (s := 6) (A_C_bi (s := 3) (A_C_bi (s := 0) hC))) ((A_bi_ne (s := 6) (sz := sz) (cL := cL) (cR := cR) (by omega) (by omega)).trans ((A_bi_ne (s := 3) (sz := sz) (cL := cL) (cR := cR) (by omega) (by omega)).trans ((A_bi_ne (s := 0) (sz := sz) (cL := cL) (cR := cR) (by omega) (by omega)).trans hN))) hn01 hX6 ho9 ?_
  have hX9 := A_bt_rg (cst := (A_cst rw vr nv 3 sz cL cS cR)) (s := 9) hX6 hc9
  have hO9 : A_isO 3 _ := A_bt_O (cst := (A_cst rw vr nv 3 sz cL cS cR)) (x := (A_bt (A_cst rw vr nv 3 sz cL cS cR) 6 (A_bt (A_cst rw vr nv 3 sz cL cS cR) 3 (A_bt (A_cst rw vr nv 3 sz cL cS cR) 0 ((-1, 0) : Int × Int))))) hO6 ho9
  refine s_bt3_12 (x := (A_bt (A_cst rw vr nv 3 sz cL cS cR) 9 (A_bt (A_cst rw vr nv 3 sz cL cS cR) 6 (A_bt (A_cst rw vr nv 3 sz cL cS cR) 3 (A_bt (A_cst rw vr nv 3 sz cL cS cR) 0 ((-1, 0) : Int × Int)))))) hw (A_V_bi (s := 9) (cL := cL) (cR := cR) hz.2 (A_V_bi (s := 6) (cL := cL) (cR := cR) hz.2 (A_V_bi (s := 3) (cL := cL) (cR := cR) hz.2 (A_V_bi (s := 0) (cL := cL) (cR := cR) hz.2 hA)))) (A_C_bi (s := 9) (A_C_bi (s := 6) (A_C_bi (s := 3) (A_C_bi (s := 0) hC)))) ((A_bi_ne (s := 9) (sz := sz) (cL := cL) (cR := cR) (by omega) (by omega)).trans ((A_bi_ne (s := 6) (sz := sz) (cL := cL) (cR := cR) (by omega) (by omega)).trans ((A_bi_ne (s := 3) (sz := sz) (cL := cL) (cR := cR) (by omega) (by omega)).trans ((A_bi_ne (s := 0) (sz := sz) (cL := cL) (cR := cR) (by omega) (by omega)).trans hN)))) hn01 hX9 ho12 ?_
  have hX12 := A_bt_rg (cst := (A_cst rw vr nv 3 sz cL cS cR)) (s := 12) hX9 hc12
  have hO12 : A_isO 3 _ := A_bt_O (cst := (A_cst rw vr nv 3 sz cL cS cR)) (x := (A_bt (A_cst rw vr nv 3 sz cL cS cR) 9 (A_bt (A_cst rw vr nv 3 sz cL cS cR) 6 (A_bt (A_cst rw vr nv 3 sz cL cS cR) 3 (A_bt (A_cst rw vr nv 3 sz cL cS cR) 0 ((-1, 0) : Int × Int)))))) hO9 ho12
  refine s_bt3_15 (x := (A_bt (A_cst rw vr nv 3 sz cL cS cR) 12 (A_bt (A_cst rw vr nv 3 sz cL cS cR) 9 (A_bt (A_cst rw vr nv 3 sz cL cS cR) 6 (A_bt (A_cst rw vr nv 3 sz cL cS cR) 3 (A_bt (A_cst rw vr nv 3 sz cL cS cR) 0 ((-1, 0) : Int × Int))))))) hw (A_V_bi (s := 12) (cL := cL) (cR := cR) hz.2 (A_V_bi (s := 9) (cL := cL) (cR := cR) hz.2 (A_V_bi (s := 6) (cL := cL) (cR := cR) hz.2 (A_V_bi (s := 3) (cL := cL) (cR := cR) hz.2 (A_V_bi (s := 0) (cL := cL) (cR := cR) hz.2 hA))))) (A_C_bi (s := 12) (A_C_bi (s := 9) (A_C_bi (s := 6) (A_C_bi (s := 3) (A_C_bi (s := 0) hC))))) ((A_bi_ne (s := 12) (sz := sz) (cL := cL) (cR := cR) (by omega) (by omega)).trans ((A_bi_ne (s := 9) (sz := sz) (cL := cL) (cR := cR) (by omega) (by omega)).trans ((A_bi_ne (s := 6) (sz := sz) (cL := cL) (cR := cR) (by omega) (by omega)).trans ((A_bi_ne (s := 3) (sz := sz) (cL := cL) (cR := cR) (by omega) (by omega)).trans ((A_bi_ne (s := 0) (sz := sz) (cL := cL) (cR := cR) (by omega) (by omega)).trans hN))))) hn01 hX12 ho15 ?_
  have hX15 := A_bt_rg (cst := (A_cst rw vr nv 3 sz cL cS cR)) (s := 15) hX12 hc15
  have hO15 : A_isO 3 _ := A_bt_O (cst := (A_cst rw vr nv 3 sz cL cS cR)) (x := (A_bt (A_cst rw vr nv 3 sz cL cS cR) 12 (A_bt (A_cst rw vr nv 3 sz cL cS cR) 9 (A_bt (A_cst rw vr nv 3 sz cL cS cR) 6 (A_bt (A_cst rw vr nv 3 sz cL cS cR) 3 (A_bt (A_cst rw vr nv 3 sz cL cS cR) 0 ((-1, 0) : Int × Int))))))) hO12 ho15
  refine s_be3 (x := (A_bt (A_cst rw vr nv 3 sz cL cS cR) 15 (A_bt (A_cst rw vr nv 3 sz cL cS cR) 12 (A_bt (A_cst rw vr nv 3 sz cL cS cR) 9 (A_bt (A_cst rw vr nv 3 sz cL cS cR) 6 (A_bt (A_cst rw vr nv 3 sz cL cS cR) 3 (A_bt (A_cst rw vr nv 3 sz cL cS cR) 0 ((-1, 0) : Int × Int)))))))) hw (A_V_bi (s := 15) (cL := cL) (cR := cR) hz.2 (A_V_bi (s := 12) (cL := cL) (cR := cR) hz.2 (A_V_bi (s := 9) (cL := cL) (cR := cR) hz.2 (A_V_bi (s := 6) (cL := cL) (cR := cR) hz.2 (A_V_bi (s := 3) (cL := cL) (cR := cR) hz.2 (A_V_bi (s := 0) (cL := cL) (cR := cR) hz.2 hA)))))) (A_C_bi (s := 15) (A_C_bi (s := 12) (A_C_bi (s := 9) (A_C_bi (s := 6) (A_C_bi (s := 3) (A_C_bi (s := 0) hC)))))) ((A_bi_ne (s := 15) (sz := sz) (cL := cL) (cR := cR) (by omega) (by omega)).trans ((A_bi_ne (s := 12) (sz := sz) (cL := cL) (cR := cR) (by omega) (by omega)).trans ((A_bi_ne (s := 9) (sz := sz) (cL := cL) (cR := cR) (by omega) (by omega)).trans ((A_bi_ne (s := 6) (sz := sz) (cL := cL) (cR := cR) (by omega) (by omega)).trans ((A_bi_ne (s := 3) (sz := sz) (cL := cL) (cR := cR) (by omega) (by omega)).trans ((A_bi_ne (s := 0) (sz := sz) (cL := cL) (cR := cR) (by omega) (by omega)).trans hN)))))) hn01 hX15 hO15 ?_
  have hq : Q (.inl (some (P_zl (A_bt (A_cst rw vr nv 3 sz cL cS cR) 15 (A_bt (A_cst rw vr nv 3 sz cL cS cR) 12 (A_bt (A_cst rw vr nv 3 sz cL cS cR) 9 (A_bt (A_cst rw vr nv 3 sz cL cS cR) 6 (A_bt (A_cst rw vr nv 3 sz cL cS cR) 3 (A_bt (A_cst rw vr nv 3 sz cL cS cR) 0 ((-1, 0) : Int × Int))))))).1))) (A_bi σ (A_bt (A_cst rw vr nv 3 sz cL cS cR) 15 (A_bt (A_cst rw vr nv 3 sz cL cS cR) 12 (A_bt (A_cst rw vr nv 3 sz cL cS cR) 9 (A_bt (A_cst rw vr nv 3 sz cL cS cR) 6 (A_bt (A_cst rw vr nv 3 sz cL cS cR) 3 (A_bt (A_cst rw vr nv 3 sz cL cS cR) 0 ((-1, 0) : Int × Int))))))).2 sz cL cR) := q
  simp only [A_bi_bi]
  exact hq
