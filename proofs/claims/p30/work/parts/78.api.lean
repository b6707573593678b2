/-! the class, written by wip/c1.py: 78.api -/
/-- all that is kept of a query that is read -/
def A_B (w : P_Lw) (σ : P_A) (ns : Int) (tb : Int → Nat) (rw : Int → Int) (vr : Int → Int → Int) (cl : Int → Int) (V : Int → Int → Int → Int) (cs : List A_cd) (od : Int → Int) (it : Int) (ki ci : Int → Int) (gp oi lm nv : Int) : Prop :=
  A_V w σ ns tb rw vr ∧ A_X σ ns tb rw cl V ∧ A_F σ ns cl it ki ci gp oi lm ∧ A_KL σ cs ∧ A_O σ ns od ∧ A_oks ns cs ∧ A_tks ns cl cs ∧ σ 13 5 = nv ∧ (0 ≤ nv ∧ nv ≤ 1) ∧ σ 29 5 = 1 ∧ σ 29 7 = -1
theorem A_B_cg {w : P_Lw} {σ σ' : P_A} {ns : Int} {tb : Int → Nat} {rw : Int → Int} {vr : Int → Int → Int} {cl : Int → Int} {V : Int → Int → Int → Int} {cs : List A_cd} {od : Int → Int} {it : Int} {ki ci : Int → Int} {gp oi lm nv : Int} (h : ∀ a b, ¬ (31 ≤ a ∧ a ≤ 49) → σ' a b = σ a b) (hB : A_B w σ ns tb rw vr cl V cs od it ki ci gp oi lm nv) : A_B w σ' ns tb rw vr cl V cs od it ki ci gp oi lm nv := by
  obtain ⟨h1, h2, h3, h4, h5, h6, h7, h8, h9, h10, h11⟩ := hB
  exact ⟨A_V_cg (fun a b q => h a b (by omega)) h1, A_X_cg (fun s a b => (h1.2.2 s a b).2.1.1) (fun a b q => h a b (by omega)) h2, A_F_cg (fun a b q q2 => h a b (by omega)) h3, A_KL_cg (h 13 4 (by omega)) (fun a b q q2 => h a b (by omega)) h4, A_O_cg (fun b => h 28 b (by omega)) h5, h6, h7, (h 13 5 (by omega)).trans h8, h9, (h 29 5 (by omega)).trans h10, (h 29 7 (by omega)).trans h11⟩
theorem A_lc_el {cs : List A_cd} {k : Int} (h : 0 ≤ k ∧ k < (cs.length : Int)) : ∃ y, y ∈ cs ∧ ∀ f, A_lc cs k f = A_cf y f := by
  have hk : k.toNat < cs.length := by omega
  refine ⟨cs.getD k.toNat (0, 0, 0, 0), ?_, fun _ => rfl⟩
  rw [List.getD_eq_getElem?_getD, List.getElem?_eq_getElem hk]
  exact List.getElem_mem hk
/-- the conditions, field by field -/
theorem A_CK {σ : P_A} {ns : Int} {cs : List A_cd} (hK : A_KL σ cs) (hok : A_oks ns cs) : A_C σ ns (cs.length : Int) (fun i => A_lc cs i 0) (fun i => A_lc cs i 1) (fun i => A_lc cs i 2) (fun i => A_lc cs i 3) := by
  refine ⟨hK.1, hK.2.1, fun i h0 h1 => ?_⟩
  obtain ⟨y, hy, e⟩ := A_lc_el ⟨h0, h1⟩
  obtain ⟨a1, a2, a3, a4⟩ := hok y hy
  refine ⟨⟨hK.2.2 i 0 h0 h1 (by omega), hK.2.2 i 1 h0 h1 (by omega), hK.2.2 i 2 h0 h1 (by omega), hK.2.2 i 3 h0 h1 (by omega)⟩, ?_, ?_, ?_, ?_⟩
  · show A_col ns (A_lc cs i 0)
    rw [e]; exact a1
  · show 9 ≤ A_lc cs i 1 ∧ A_lc cs i 1 ≤ 11
    rw [e]; exact a2
  · show A_col ns (A_lc cs i 2) ∨ 1000 ≤ A_lc cs i 2 ∧ A_lc cs i 2 ≤ 1999
    rw [e]; exact a3
  · show 0 ≤ A_lc cs i 3 ∧ A_lc cs i 3 ≤ 2
    rw [e]; exact a4
/-- rows times rows -/
def A_all (rw : Int → Int) (ns : Int) : Int := if ns = 1 then 1 * rw 0 else if ns = 2 then 1 * rw 0 * rw 1 else 1 * rw 0 * rw 1 * rw 2
theorem P_o_i2d {r1 : Int} {r2 : Nat} {L st : List Value} {a : Int} : P_op .i2d r1 r2 L (P_z a :: st) = some (L, .double (FP.i2d (Int32.ofInt a)) :: st) := rfl
theorem P_o_ddiv {r1 : Int} {r2 : Nat} {L st : List Value} {x y : UInt64} (h : FP.ddiv x y &&& 0x7fffffffffffffff ≤ 0x7ff0000000000000) : P_op .ddiv r1 r2 L (.double y :: .double x :: st) = some (L, .double (FP.ddiv x y) :: st) := by simp only [P_op, P_dd, if_pos h]
theorem P_o_dmul {r1 : Int} {r2 : Nat} {L st : List Value} {x y : UInt64} (h : FP.dmul x y &&& 0x7fffffffffffffff ≤ 0x7ff0000000000000) : P_op .dmul r1 r2 L (.double y :: .double x :: st) = some (L, .double (FP.dmul x y) :: st) := by simp only [P_op, P_dd, if_pos h]
theorem P_o_dadd {r1 : Int} {r2 : Nat} {L st : List Value} {x y : UInt64} (h : FP.dadd x y &&& 0x7fffffffffffffff ≤ 0x7ff0000000000000) : P_op .dadd r1 r2 L (.double y :: .double x :: st) = some (L, .double (FP.dadd x y) :: st) := by simp only [P_op, P_dd, if_pos h]
theorem s_many3 {w : P_Lw} (hw : P_Cw w) {d : Nat} {Q : P_R → P_A → Prop} {σ : P_A} {ns : Int} {tb : Int → Nat} {rw : Int → Int} {vr : Int → Int → Int} {cl : Int → Int} {V : Int → Int → Int → Int} {cs : List A_cd} {od : Int → Int} {it : Int} {ki ci : Int → Int} {gp oi lm : Int} {nv : Int} (hB : A_B w σ ns tb rw vr cl V cs od it ki ci gp oi lm nv)  (q : Q (.inl (some (P_z ns))) σ) : P_aw w (d + 8) 145 0 [.ref (w.2.2 0), P_z 3] [] σ Q := by
  obtain ⟨hA, hX, hF, hK, hO, hok, htk, hN, hn01, hrd1, hfp⟩ := id hB
  have hns := hA.2.1
  have hit := hF.2.1
  have hsz0 := hK.2.1
  refine P_aw_op (L' := [.ref (w.2.2 0), P_z 3]) (st' := [P_z 3]) P_i145_0 rfl (show P_aw _ _ _ 1 [.ref (w.2.2 0), P_z 3] [P_z 3] _ _ from ?_)
  refine P_aw_izf P_i145_1 ⟨by decide, by decide⟩ (P_ci_ltf (by omega)) (show P_aw _ _ _ 4 [.ref (w.2.2 0), P_z 3] [] _ _ from ?_)
  refine P_aw_op (L' := [.ref (w.2.2 0), P_z 3]) (st' := [P_z 3]) P_i145_4 rfl (show P_aw _ _ _ 5 [.ref (w.2.2 0), P_z 3] [P_z 3] _ _ from ?_)
  refine P_aw_op (L' := [.ref (w.2.2 0), P_z 3]) (st' := [P_z 4, P_z 3]) P_i145_5 rfl (show P_aw _ _ _ 6 [.ref (w.2.2 0), P_z 3] [P_z 4, P_z 3] _ _ from ?_)
  refine P_aw_ict P_i145_6 ⟨by decide, by decide⟩ ⟨by decide, by decide⟩ (P_ci_let (by omega)) (show P_aw _ _ _ 19 [.ref (w.2.2 0), P_z 3] [] _ _ from ?_)
  refine P_aw_op (L' := [.ref (w.2.2 0), P_z 3]) (st' := [.ref (w.2.2 0)]) P_i145_19 rfl (show P_aw _ _ _ 20 [.ref (w.2.2 0), P_z 3] [.ref (w.2.2 0)] _ _ from ?_)
  refine P_aw_op (L' := [.ref (w.2.2 0), P_z 3]) (st' := [P_z 3, .ref (w.2.2 0)]) P_i145_20 rfl (show P_aw _ _ _ 21 [.ref (w.2.2 0), P_z 3] [P_z 3, .ref (w.2.2 0)] _ _ from ?_)
  refine P_aw_call P_i145_21 rfl rfl (fun _ => rfl) rfl rfl rfl rfl (y2 := 167) (as := [.ref (w.2.2 0), P_z 3]) (r0 := []) (P_inv_v (hw.2.1 0 (by decide)) (hw.s rfl) rfl rfl) (Nat.le_of_ble_eq_true rfl) (by decide) rfl (Nat.le_of_ble_eq_true rfl) (show P_aw _ _ _ 0 [.ref (w.2.2 0), P_z 3] [] _ _ from ?_)
  refine P_aw_op (L' := [.ref (w.2.2 0), P_z 3]) (st' := [P_z 3]) P_i167_0 rfl (show P_aw _ _ _ 1 [.ref (w.2.2 0), P_z 3] [P_z 3] _ _ from ?_)
  refine P_aw_izt P_i167_1 ⟨by decide, by decide⟩ (P_ci_net (by omega)) (show P_aw _ _ _ 12 [.ref (w.2.2 0), P_z 3] [] _ _ from ?_)
  refine P_aw_op (L' := [.ref (w.2.2 0), P_z 3]) (st' := [P_z 3]) P_i167_12 rfl (show P_aw _ _ _ 13 [.ref (w.2.2 0), P_z 3] [P_z 3] _ _ from ?_)
  refine P_aw_op (L' := [.ref (w.2.2 0), P_z 3]) (st' := [P_z 1, P_z 3]) P_i167_13 rfl (show P_aw _ _ _ 14 [.ref (w.2.2 0), P_z 3] [P_z 1, P_z 3] _ _ from ?_)
  refine P_aw_ict P_i167_14 ⟨by decide, by decide⟩ ⟨by decide, by decide⟩ (P_ci_net (by omega)) (show P_aw _ _ _ 25 [.ref (w.2.2 0), P_z 3] [] _ _ from ?_)
  refine P_aw_op (L' := [.ref (w.2.2 0), P_z 3]) (st' := [.ref (w.2.2 0)]) P_i167_25 rfl (show P_aw _ _ _ 26 [.ref (w.2.2 0), P_z 3] [.ref (w.2.2 0)] _ _ from ?_)
  refine P_aw_getR P_i167_26 (hw.2.1 0 (by decide)) (hw.s rfl) rfl rfl (show P_aw _ _ _ 29 [.ref (w.2.2 0), P_z 3] [.ref (w.2.2 29)] _ _ from ?_)
  refine P_aw_call P_i167_29 rfl rfl (fun _ => rfl) rfl rfl rfl rfl (y2 := 92) (as := [.ref (w.2.2 29)]) (r0 := []) (P_inv_v (hw.2.1 29 (by decide)) (hw.s rfl) rfl rfl) (Nat.le_of_ble_eq_true rfl) (by decide) rfl (Nat.le_of_ble_eq_true rfl) (show P_aw _ _ _ 0 [.ref (w.2.2 29)] [] _ _ from ?_)
  refine P_aw_op (L' := [.ref (w.2.2 29)]) (st' := [.ref (w.2.2 29)]) P_i92_0 rfl (show P_aw _ _ _ 1 [.ref (w.2.2 29)] [.ref (w.2.2 29)] _ _ from ?_)
  refine P_aw_getv P_i92_1 (hw.2.1 29 (by decide)) (hw.s rfl) rfl rfl (hrd1) (show P_aw _ _ _ 4 [.ref (w.2.2 29)] [P_z 1] _ _ from ?_)
  refine P_aw_end P_i92_4 rfl rfl (fun _ => rfl) rfl ?_
  show P_aw _ _ _ 32 [.ref (w.2.2 0), P_z 3] [P_z 1] _ _
  refine P_aw_izt P_i167_32 ⟨by decide, by decide⟩ (P_ci_net (by omega)) (show P_aw _ _ _ 37 [.ref (w.2.2 0), P_z 3] [] _ _ from ?_)
  refine P_aw_op (L' := [.ref (w.2.2 0), P_z 3]) (st' := [P_z 3]) P_i167_37 rfl (show P_aw _ _ _ 38 [.ref (w.2.2 0), P_z 3] [P_z 3] _ _ from ?_)
  refine P_aw_op (L' := [.ref (w.2.2 0), P_z 3]) (st' := [P_z 2, P_z 3]) P_i167_38 rfl (show P_aw _ _ _ 39 [.ref (w.2.2 0), P_z 3] [P_z 2, P_z 3] _ _ from ?_)
  refine P_aw_ict P_i167_39 ⟨by decide, by decide⟩ ⟨by decide, by decide⟩ (P_ci_net (by omega)) (show P_aw _ _ _ 50 [.ref (w.2.2 0), P_z 3] [] _ _ from ?_)
  refine P_aw_op (L' := [.ref (w.2.2 0), P_z 3]) (st' := [P_z 3]) P_i167_50 rfl (show P_aw _ _ _ 51 [.ref (w.2.2 0), P_z 3] [P_z 3] _ _ from ?_)
  refine P_aw_op (L' := [.ref (w.2.2 0), P_z 3]) (st' := [P_z 3, P_z 3]) P_i167_51 rfl (show P_aw _ _ _ 52 [.ref (w.2.2 0), P_z 3] [P_z 3, P_z 3] _ _ from ?_)
  refine P_aw_icf P_i167_52 ⟨by decide, by decide⟩ ⟨by decide, by decide⟩ (P_ci_nef (by omega)) (show P_aw _ _ _ 55 [.ref (w.2.2 0), P_z 3] [] _ _ from ?_)
  refine P_aw_op (L' := [.ref (w.2.2 0), P_z 3]) (st' := [.ref (w.2.2 0)]) P_i167_55 rfl (show P_aw _ _ _ 56 [.ref (w.2.2 0), P_z 3] [.ref (w.2.2 0)] _ _ from ?_)
  refine P_aw_getR P_i167_56 (hw.2.1 0 (by decide)) (hw.s rfl) rfl rfl (show P_aw _ _ _ 59 [.ref (w.2.2 0), P_z 3] [.ref (w.2.2 6)] _ _ from ?_)
  refine P_aw_call P_i167_59 rfl rfl (fun _ => rfl) rfl rfl rfl rfl (y2 := 30) (as := [.ref (w.2.2 6)]) (r0 := []) (P_inv_v (hw.2.1 6 (by decide)) (hw.s rfl) rfl rfl) (Nat.le_of_ble_eq_true rfl) (by decide) rfl (Nat.le_of_ble_eq_true rfl) (show P_aw _ _ _ 0 [.ref (w.2.2 6)] [] _ _ from ?_)
  refine P_aw_op (L' := [.ref (w.2.2 6)]) (st' := [.ref (w.2.2 6)]) P_i30_0 rfl (show P_aw _ _ _ 1 [.ref (w.2.2 6)] [.ref (w.2.2 6)] _ _ from ?_)
  refine P_aw_getv P_i30_1 (hw.2.1 6 (by decide)) (hw.s rfl) rfl rfl (hA.1) (show P_aw _ _ _ 4 [.ref (w.2.2 6)] [P_z ns] _ _ from ?_)
  refine P_aw_end P_i30_4 rfl rfl (fun _ => rfl) rfl ?_
  show P_aw _ _ _ 62 [.ref (w.2.2 0), P_z 3] [P_z ns] _ _
  refine P_aw_goto P_i167_62 (show P_aw _ _ _ 72 [.ref (w.2.2 0), P_z 3] [P_z ns] _ _ from ?_)
  refine P_aw_end P_i167_72 rfl rfl (fun _ => rfl) rfl ?_
  show P_aw _ _ _ 24 [.ref (w.2.2 0), P_z 3] [P_z ns] _ _
  refine P_aw_end P_i145_24 rfl rfl (fun _ => rfl) rfl ?_
  exact q

theorem s_many4 {w : P_Lw} (hw : P_Cw w) {d : Nat} {Q : P_R → P_A → Prop} {σ : P_A} {ns : Int} {tb : Int → Nat} {rw : Int → Int} {vr : Int → Int → Int} {cl : Int → Int} {V : Int → Int → Int → Int} {cs : List A_cd} {od : Int → Int} {it : Int} {ki ci : Int → Int} {gp oi lm : Int} {nv : Int} (hB : A_B w σ ns tb rw vr cl V cs od it ki ci gp oi lm nv)  (q : Q (.inl (some (P_z (cs.length : Int)))) σ) : P_aw w (d + 8) 145 0 [.ref (w.2.2 0), P_z 4] [] σ Q := by
  obtain ⟨hA, hX, hF, hK, hO, hok, htk, hN, hn01, hrd1, hfp⟩ := id hB
  have hns := hA.2.1
  have hit := hF.2.1
  have hsz0 := hK.2.1
  refine P_aw_op (L' := [.ref (w.2.2 0), P_z 4]) (st' := [P_z 4]) P_i145_0 rfl (show P_aw _ _ _ 1 [.ref (w.2.2 0), P_z 4] [P_z 4] _ _ from ?_)
  refine P_aw_izf P_i145_1 ⟨by decide, by decide⟩ (P_ci_ltf (by omega)) (show P_aw _ _ _ 4 [.ref (w.2.2 0), P_z 4] [] _ _ from ?_)
  refine P_aw_op (L' := [.ref (w.2.2 0), P_z 4]) (st' := [P_z 4]) P_i145_4 rfl (show P_aw _ _ _ 5 [.ref (w.2.2 0), P_z 4] [P_z 4] _ _ from ?_)
  refine P_aw_op (L' := [.ref (w.2.2 0), P_z 4]) (st' := [P_z 4, P_z 4]) P_i145_5 rfl (show P_aw _ _ _ 6 [.ref (w.2.2 0), P_z 4] [P_z 4, P_z 4] _ _ from ?_)
  refine P_aw_ict P_i145_6 ⟨by decide, by decide⟩ ⟨by decide, by decide⟩ (P_ci_let (by omega)) (show P_aw _ _ _ 19 [.ref (w.2.2 0), P_z 4] [] _ _ from ?_)
  refine P_aw_op (L' := [.ref (w.2.2 0), P_z 4]) (st' := [.ref (w.2.2 0)]) P_i145_19 rfl (show P_aw _ _ _ 20 [.ref (w.2.2 0), P_z 4] [.ref (w.2.2 0)] _ _ from ?_)
  refine P_aw_op (L' := [.ref (w.2.2 0), P_z 4]) (st' := [P_z 4, .ref (w.2.2 0)]) P_i145_20 rfl (show P_aw _ _ _ 21 [.ref (w.2.2 0), P_z 4] [P_z 4, .ref (w.2.2 0)] _ _ from ?_)
  refine P_aw_call P_i145_21 rfl rfl (fun _ => rfl) rfl rfl rfl rfl (y2 := 167) (as := [.ref (w.2.2 0), P_z 4]) (r0 := []) (P_inv_v (hw.2.1 0 (by decide)) (hw.s rfl) rfl rfl) (Nat.le_of_ble_eq_true rfl) (by decide) rfl (Nat.le_of_ble_eq_true rfl) (show P_aw _ _ _ 0 [.ref (w.2.2 0), P_z 4] [] _ _ from ?_)
  refine P_aw_op (L' := [.ref (w.2.2 0), P_z 4]) (st' := [P_z 4]) P_i167_0 rfl (show P_aw _ _ _ 1 [.ref (w.2.2 0), P_z 4] [P_z 4] _ _ from ?_)
  refine P_aw_izt P_i167_1 ⟨by decide, by decide⟩ (P_ci_net (by omega)) (show P_aw _ _ _ 12 [.ref (w.2.2 0), P_z 4] [] _ _ from ?_)
  refine P_aw_op (L' := [.ref (w.2.2 0), P_z 4]) (st' := [P_z 4]) P_i167_12 rfl (show P_aw _ _ _ 13 [.ref (w.2.2 0), P_z 4] [P_z 4] _ _ from ?_)
  refine P_aw_op (L' := [.ref (w.2.2 0), P_z 4]) (st' := [P_z 1, P_z 4]) P_i167_13 rfl (show P_aw _ _ _ 14 [.ref (w.2.2 0), P_z 4] [P_z 1, P_z 4] _ _ from ?_)
  refine P_aw_ict P_i167_14 ⟨by decide, by decide⟩ ⟨by decide, by decide⟩ (P_ci_net (by omega)) (show P_aw _ _ _ 25 [.ref (w.2.2 0), P_z 4] [] _ _ from ?_)
  refine P_aw_op (L' := [.ref (w.2.2 0), P_z 4]) (st' := [.ref (w.2.2 0)]) P_i167_25 rfl (show P_aw _ _ _ 26 [.ref (w.2.2 0), P_z 4] [.ref (w.2.2 0)] _ _ from ?_)
  refine P_aw_getR P_i167_26 (hw.2.1 0 (by decide)) (hw.s rfl) rfl rfl (show P_aw _ _ _ 29 [.ref (w.2.2 0), P_z 4] [.ref (w.2.2 29)] _ _ from ?_)
  refine P_aw_call P_i167_29 rfl rfl (fun _ => rfl) rfl rfl rfl rfl (y2 := 92) (as := [.ref (w.2.2 29)]) (r0 := []) (P_inv_v (hw.2.1 29 (by decide)) (hw.s rfl) rfl rfl) (Nat.le_of_ble_eq_true rfl) (by decide) rfl (Nat.le_of_ble_eq_true rfl) (show P_aw _ _ _ 0 [.ref (w.2.2 29)] [] _ _ from ?_)
  refine P_aw_op (L' := [.ref (w.2.2 29)]) (st' := [.ref (w.2.2 29)]) P_i92_0 rfl (show P_aw _ _ _ 1 [.ref (w.2.2 29)] [.ref (w.2.2 29)] _ _ from ?_)
  refine P_aw_getv P_i92_1 (hw.2.1 29 (by decide)) (hw.s rfl) rfl rfl (hrd1) (show P_aw _ _ _ 4 [.ref (w.2.2 29)] [P_z 1] _ _ from ?_)
  refine P_aw_end P_i92_4 rfl rfl (fun _ => rfl) rfl ?_
  show P_aw _ _ _ 32 [.ref (w.2.2 0), P_z 4] [P_z 1] _ _
  refine P_aw_izt P_i167_32 ⟨by decide, by decide⟩ (P_ci_net (by omega)) (show P_aw _ _ _ 37 [.ref (w.2.2 0), P_z 4] [] _ _ from ?_)
  refine P_aw_op (L' := [.ref (w.2.2 0), P_z 4]) (st' := [P_z 4]) P_i167_37 rfl (show P_aw _ _ _ 38 [.ref (w.2.2 0), P_z 4] [P_z 4] _ _ from ?_)
  refine P_aw_op (L' := [.ref (w.2.2 0), P_z 4]) (st' := [P_z 2, P_z 4]) P_i167_38 rfl (show P_aw _ _ _ 39 [.ref (w.2.2 0), P_z 4] [P_z 2, P_z 4] _ _ from ?_)
  refine P_aw_ict P_i167_39 ⟨by decide, by decide⟩ ⟨by decide, by decide⟩ (P_ci_net (by omega)) (show P_aw _ _ _ 50 [.ref (w.2.2 0), P_z 4] [] _ _ from ?_)
  refine P_aw_op (L' := [.ref (w.2.2 0), P_z 4]) (st' := [P_z 4]) P_i167_50 rfl (show P_aw _ _ _ 51 [.ref (w.2.2 0), P_z 4] [P_z 4] _ _ from ?_)
  refine P_aw_op (L' := [.ref (w.2.2 0), P_z 4]) (st' := [P_z 3, P_z 4]) P_i167_51 rfl (show P_aw _ _ _ 52 [.ref (w.2.2 0), P_z 4] [P_z 3, P_z 4] _ _ from ?_)
  refine P_aw_ict P_i167_52 ⟨by decide, by decide⟩ ⟨by decide, by decide⟩ (P_ci_net (by omega)) (show P_aw _ _ _ 65 [.ref (w.2.2 0), P_z 4] [] _ _ from ?_)
  refine P_aw_op (L' := [.ref (w.2.2 0), P_z 4]) (st' := [.ref (w.2.2 0)]) P_i167_65 rfl (show P_aw _ _ _ 66 [.ref (w.2.2 0), P_z 4] [.ref (w.2.2 0)] _ _ from ?_)
  refine P_aw_getR P_i167_66 (hw.2.1 0 (by decide)) (hw.s rfl) rfl rfl (show P_aw _ _ _ 69 [.ref (w.2.2 0), P_z 4] [.ref (w.2.2 13)] _ _ from ?_)
  refine P_aw_call P_i167_69 rfl rfl (fun _ => rfl) rfl rfl rfl rfl (y2 := 55) (as := [.ref (w.2.2 13)]) (r0 := []) (P_inv_v (hw.2.1 13 (by decide)) (hw.s rfl) rfl rfl) (Nat.le_of_ble_eq_true rfl) (by decide) rfl (Nat.le_of_ble_eq_true rfl) (show P_aw _ _ _ 0 [.ref (w.2.2 13)] [] _ _ from ?_)
  refine P_aw_op (L' := [.ref (w.2.2 13)]) (st' := [.ref (w.2.2 13)]) P_i55_0 rfl (show P_aw _ _ _ 1 [.ref (w.2.2 13)] [.ref (w.2.2 13)] _ _ from ?_)
  have hg1 := hK.2.1
  refine P_aw_getv P_i55_1 (hw.2.1 13 (by decide)) (hw.s rfl) rfl rfl (hK.1) (show P_aw _ _ _ 4 [.ref (w.2.2 13)] [P_z (cs.length : Int)] _ _ from ?_)
  refine P_aw_end P_i55_4 rfl rfl (fun _ => rfl) rfl ?_
  show P_aw _ _ _ 72 [.ref (w.2.2 0), P_z 4] [P_z (cs.length : Int)] _ _
  refine P_aw_end P_i167_72 rfl rfl (fun _ => rfl) rfl ?_
  show P_aw _ _ _ 24 [.ref (w.2.2 0), P_z 4] [P_z (cs.length : Int)] _ _
  refine P_aw_end P_i145_24 rfl rfl (fun _ => rfl) rfl ?_
  exact q

theorem s_order {w : P_Lw} (hw : P_Cw w) {d : Nat} {Q : P_R → P_A → Prop} {σ : P_A} {ns : Int} {tb : Int → Nat} {rw : Int → Int} {vr : Int → Int → Int} {cl : Int → Int} {V : Int → Int → Int → Int} {cs : List A_cd} {od : Int → Int} {it : Int} {ki ci : Int → Int} {gp oi lm : Int} {nv : Int} (hB : A_B w σ ns tb rw vr cl V cs od it ki ci gp oi lm nv) {k : Int} (hk : 0 ≤ k ∧ k < ns) (q : Q (.inl (some (P_z (od k)))) σ) : P_aw w (d + 8) 150 0 [.ref (w.2.2 0), P_z k] [] σ Q := by
  obtain ⟨hA, hX, hF, hK, hO, hok, htk, hN, hn01, hrd1, hfp⟩ := id hB
  have hns := hA.2.1
  have hit := hF.2.1
  have hsz0 := hK.2.1
  refine P_aw_op (L' := [.ref (w.2.2 0), P_z k]) (st' := [.ref (w.2.2 0)]) P_i150_0 rfl (show P_aw _ _ _ 1 [.ref (w.2.2 0), P_z k] [.ref (w.2.2 0)] _ _ from ?_)
  refine P_aw_call P_i150_1 rfl rfl (fun _ => rfl) rfl rfl rfl rfl (y2 := 168) (as := [.ref (w.2.2 0)]) (r0 := []) (P_inv_v (hw.2.1 0 (by decide)) (hw.s rfl) rfl rfl) (Nat.le_of_ble_eq_true rfl) (by decide) rfl (Nat.le_of_ble_eq_true rfl) (show P_aw _ _ _ 0 [.ref (w.2.2 0)] [] _ _ from ?_)
  refine P_aw_op (L' := [.ref (w.2.2 0)]) (st' := [.ref (w.2.2 0)]) P_i168_0 rfl (show P_aw _ _ _ 1 [.ref (w.2.2 0)] [.ref (w.2.2 0)] _ _ from ?_)
  refine P_aw_getR P_i168_1 (hw.2.1 0 (by decide)) (hw.s rfl) rfl rfl (show P_aw _ _ _ 4 [.ref (w.2.2 0)] [.ref (w.2.2 29)] _ _ from ?_)
  refine P_aw_call P_i168_4 rfl rfl (fun _ => rfl) rfl rfl rfl rfl (y2 := 92) (as := [.ref (w.2.2 29)]) (r0 := []) (P_inv_v (hw.2.1 29 (by decide)) (hw.s rfl) rfl rfl) (Nat.le_of_ble_eq_true rfl) (by decide) rfl (Nat.le_of_ble_eq_true rfl) (show P_aw _ _ _ 0 [.ref (w.2.2 29)] [] _ _ from ?_)
  refine P_aw_op (L' := [.ref (w.2.2 29)]) (st' := [.ref (w.2.2 29)]) P_i92_0 rfl (show P_aw _ _ _ 1 [.ref (w.2.2 29)] [.ref (w.2.2 29)] _ _ from ?_)
  refine P_aw_getv P_i92_1 (hw.2.1 29 (by decide)) (hw.s rfl) rfl rfl (hrd1) (show P_aw _ _ _ 4 [.ref (w.2.2 29)] [P_z 1] _ _ from ?_)
  refine P_aw_end P_i92_4 rfl rfl (fun _ => rfl) rfl ?_
  show P_aw _ _ _ 7 [.ref (w.2.2 0)] [P_z 1] _ _
  refine P_aw_izt P_i168_7 ⟨by decide, by decide⟩ (P_ci_net (by omega)) (show P_aw _ _ _ 21 [.ref (w.2.2 0)] [] _ _ from ?_)
  refine P_aw_end P_i168_21 rfl rfl (fun _ => rfl) rfl ?_
  show P_aw _ _ _ 4 [.ref (w.2.2 0), P_z k] [] _ _
  refine P_aw_op (L' := [.ref (w.2.2 0), P_z k]) (st' := [.ref (w.2.2 0)]) P_i150_4 rfl (show P_aw _ _ _ 5 [.ref (w.2.2 0), P_z k] [.ref (w.2.2 0)] _ _ from ?_)
  refine P_aw_getR P_i150_5 (hw.2.1 0 (by decide)) (hw.s rfl) rfl rfl (show P_aw _ _ _ 8 [.ref (w.2.2 0), P_z k] [.ref (w.2.2 6)] _ _ from ?_)
  refine P_aw_op (L' := [.ref (w.2.2 0), P_z k]) (st' := [P_z k, .ref (w.2.2 6)]) P_i150_8 rfl (show P_aw _ _ _ 9 [.ref (w.2.2 0), P_z k] [P_z k, .ref (w.2.2 6)] _ _ from ?_)
  refine P_aw_call P_i150_9 rfl rfl (fun _ => rfl) rfl rfl rfl rfl (y2 := 37) (as := [.ref (w.2.2 6), P_z k]) (r0 := []) (P_inv_v (hw.2.1 6 (by decide)) (hw.s rfl) rfl rfl) (Nat.le_of_ble_eq_true rfl) (by decide) rfl (Nat.le_of_ble_eq_true rfl) (show P_aw _ _ _ 0 [.ref (w.2.2 6), P_z k] [] _ _ from ?_)
  refine P_aw_op (L' := [.ref (w.2.2 6), P_z k]) (st' := [P_z k]) P_i37_0 rfl (show P_aw _ _ _ 1 [.ref (w.2.2 6), P_z k] [P_z k] _ _ from ?_)
  refine P_aw_izf P_i37_1 ⟨by omega, by omega⟩ (P_ci_ltf (by omega)) (show P_aw _ _ _ 4 [.ref (w.2.2 6), P_z k] [] _ _ from ?_)
  refine P_aw_op (L' := [.ref (w.2.2 6), P_z k]) (st' := [P_z k]) P_i37_4 rfl (show P_aw _ _ _ 5 [.ref (w.2.2 6), P_z k] [P_z k] _ _ from ?_)
  refine P_aw_op (L' := [.ref (w.2.2 6), P_z k]) (st' := [.ref (w.2.2 6), P_z k]) P_i37_5 rfl (show P_aw _ _ _ 6 [.ref (w.2.2 6), P_z k] [.ref (w.2.2 6), P_z k] _ _ from ?_)
  refine P_aw_getv P_i37_6 (hw.2.1 6 (by decide)) (hw.s rfl) rfl rfl (hA.1) (show P_aw _ _ _ 9 [.ref (w.2.2 6), P_z k] [P_z ns, P_z k] _ _ from ?_)
  refine P_aw_icf P_i37_9 ⟨by omega, by omega⟩ ⟨by omega, by omega⟩ (P_ci_gef (by omega)) (show P_aw _ _ _ 12 [.ref (w.2.2 6), P_z k] [] _ _ from ?_)
  refine P_aw_op (L' := [.ref (w.2.2 6), P_z k]) (st' := [P_z 1]) P_i37_12 rfl (show P_aw _ _ _ 13 [.ref (w.2.2 6), P_z k] [P_z 1] _ _ from ?_)
  refine P_aw_goto P_i37_13 (show P_aw _ _ _ 17 [.ref (w.2.2 6), P_z k] [P_z 1] _ _ from ?_)
  refine P_aw_end P_i37_17 rfl rfl (fun _ => rfl) rfl ?_
  show P_aw _ _ _ 12 [.ref (w.2.2 0), P_z k] [P_z 1] _ _
  refine P_aw_izt P_i150_12 ⟨by decide, by decide⟩ (P_ci_net (by omega)) (show P_aw _ _ _ 25 [.ref (w.2.2 0), P_z k] [] _ _ from ?_)
  refine P_aw_op (L' := [.ref (w.2.2 0), P_z k]) (st' := [.ref (w.2.2 0)]) P_i150_25 rfl (show P_aw _ _ _ 26 [.ref (w.2.2 0), P_z k] [.ref (w.2.2 0)] _ _ from ?_)
  refine P_aw_getR P_i150_26 (hw.2.1 0 (by decide)) (hw.s rfl) rfl rfl (show P_aw _ _ _ 29 [.ref (w.2.2 0), P_z k] [.ref (w.2.2 13)] _ _ from ?_)
  refine P_aw_op (L' := [.ref (w.2.2 0), P_z k]) (st' := [P_z k, .ref (w.2.2 13)]) P_i150_29 rfl (show P_aw _ _ _ 30 [.ref (w.2.2 0), P_z k] [P_z k, .ref (w.2.2 13)] _ _ from ?_)
  refine P_aw_call P_i150_30 rfl rfl (fun _ => rfl) rfl rfl rfl rfl (y2 := 58) (as := [.ref (w.2.2 13), P_z k]) (r0 := []) (P_inv_v (hw.2.1 13 (by decide)) (hw.s rfl) rfl rfl) (Nat.le_of_ble_eq_true rfl) (by decide) rfl (Nat.le_of_ble_eq_true rfl) (show P_aw _ _ _ 0 [.ref (w.2.2 13), P_z k] [] _ _ from ?_)
  refine P_aw_op (L' := [.ref (w.2.2 13), P_z k]) (st' := [.ref (w.2.2 13)]) P_i58_0 rfl (show P_aw _ _ _ 1 [.ref (w.2.2 13), P_z k] [.ref (w.2.2 13)] _ _ from ?_)
  refine P_aw_getR P_i58_1 (hw.2.1 13 (by decide)) (hw.s rfl) rfl rfl (show P_aw _ _ _ 4 [.ref (w.2.2 13), P_z k] [.ref (w.2.2 28)] _ _ from ?_)
  refine P_aw_op (L' := [.ref (w.2.2 13), P_z k]) (st' := [P_z k, .ref (w.2.2 28)]) P_i58_4 rfl (show P_aw _ _ _ 5 [.ref (w.2.2 13), P_z k] [P_z k, .ref (w.2.2 28)] _ _ from ?_)
  refine P_aw_call P_i58_5 rfl rfl (fun _ => rfl) rfl rfl rfl rfl (y2 := 178) (as := [.ref (w.2.2 28), P_z k]) (r0 := []) (fun _ _ => rfl) (Nat.le_of_ble_eq_true rfl) (by decide) rfl (Nat.le_of_ble_eq_true rfl) (show P_aw _ _ _ 0 [.ref (w.2.2 28), P_z k] [] _ _ from ?_)
  refine P_aw_op (L' := [.ref (w.2.2 28), P_z k]) (st' := [P_z k]) P_i178_0 rfl (show P_aw _ _ _ 1 [.ref (w.2.2 28), P_z k] [P_z k] _ _ from ?_)
  refine P_aw_izf P_i178_1 ⟨by omega, by omega⟩ (P_ci_ltf (by omega)) (show P_aw _ _ _ 4 [.ref (w.2.2 28), P_z k] [] _ _ from ?_)
  refine P_aw_op (L' := [.ref (w.2.2 28), P_z k]) (st' := [P_z k]) P_i178_4 rfl (show P_aw _ _ _ 5 [.ref (w.2.2 28), P_z k] [P_z k] _ _ from ?_)
  refine P_aw_op (L' := [.ref (w.2.2 28), P_z k]) (st' := [.ref (w.2.2 28), P_z k]) P_i178_5 rfl (show P_aw _ _ _ 6 [.ref (w.2.2 28), P_z k] [.ref (w.2.2 28), P_z k] _ _ from ?_)
  refine P_aw_alen P_i178_6 (hw.2.1 28 (by decide)) (hw.s rfl) (show P_aw _ _ _ 7 [.ref (w.2.2 28), P_z k] [P_z 3, P_z k] _ _ from ?_)
  refine P_aw_icf P_i178_7 ⟨by omega, by omega⟩ ⟨by decide, by decide⟩ (P_ci_gef (by omega)) (show P_aw _ _ _ 10 [.ref (w.2.2 28), P_z k] [] _ _ from ?_)
  refine P_aw_op (L' := [.ref (w.2.2 28), P_z k]) (st' := [.ref (w.2.2 28)]) P_i178_10 rfl (show P_aw _ _ _ 11 [.ref (w.2.2 28), P_z k] [.ref (w.2.2 28)] _ _ from ?_)
  refine P_aw_op (L' := [.ref (w.2.2 28), P_z k]) (st' := [P_z k, .ref (w.2.2 28)]) P_i178_11 rfl (show P_aw _ _ _ 12 [.ref (w.2.2 28), P_z k] [P_z k, .ref (w.2.2 28)] _ _ from ?_)
  have hg1 := (hO k (by omega) (by omega)).2
  refine P_aw_aldv P_i178_12 (hw.2.1 28 (by decide)) (hw.s rfl) (by omega) (by omega) (by decide) ((hO k (by omega) (by omega)).1) (show P_aw _ _ _ 13 [.ref (w.2.2 28), P_z k] [P_z (od k)] _ _ from ?_)
  refine P_aw_goto P_i178_13 (show P_aw _ _ _ 17 [.ref (w.2.2 28), P_z k] [P_z (od k)] _ _ from ?_)
  refine P_aw_end P_i178_17 rfl rfl (fun _ => rfl) rfl ?_
  show P_aw _ _ _ 8 [.ref (w.2.2 13), P_z k] [P_z (od k)] _ _
  refine P_aw_end P_i58_8 rfl rfl (fun _ => rfl) rfl ?_
  show P_aw _ _ _ 33 [.ref (w.2.2 0), P_z k] [P_z (od k)] _ _
  refine P_aw_end P_i150_33 rfl rfl (fun _ => rfl) rfl ?_
  exact q

theorem s_open {w : P_Lw} (hw : P_Cw w) {d : Nat} {Q : P_R → P_A → Prop} {σ : P_A} {ns : Int} {tb : Int → Nat} {rw : Int → Int} {vr : Int → Int → Int} {cl : Int → Int} {V : Int → Int → Int → Int} {cs : List A_cd} {od : Int → Int} {it : Int} {ki ci : Int → Int} {gp oi lm : Int} {nv : Int} (hB : A_B w σ ns tb rw vr cl V cs od it ki ci gp oi lm nv)  (q : Q (.inl (some (P_z it))) (P_u2 (P_u2 (P_u2 (P_u2 (P_u2 σ 44 0 0) 44 1 0) 44 2 0) 44 3 0) 44 0 1)) : P_aw w (d + 8) 154 0 [.ref (w.2.2 0)] [] σ Q := by
  obtain ⟨hA, hX, hF, hK, hO, hok, htk, hN, hn01, hrd1, hfp⟩ := id hB
  have hns := hA.2.1
  have hit := hF.2.1
  have hsz0 := hK.2.1
  refine P_aw_op (L' := [.ref (w.2.2 0)]) (st' := [.ref (w.2.2 0)]) P_i154_0 rfl (show P_aw _ _ _ 1 [.ref (w.2.2 0)] [.ref (w.2.2 0)] _ _ from ?_)
  refine P_aw_call P_i154_1 rfl rfl (fun _ => rfl) rfl rfl rfl rfl (y2 := 168) (as := [.ref (w.2.2 0)]) (r0 := []) (P_inv_v (hw.2.1 0 (by decide)) (hw.s rfl) rfl rfl) (Nat.le_of_ble_eq_true rfl) (by decide) rfl (Nat.le_of_ble_eq_true rfl) (show P_aw _ _ _ 0 [.ref (w.2.2 0)] [] _ _ from ?_)
  refine P_aw_op (L' := [.ref (w.2.2 0)]) (st' := [.ref (w.2.2 0)]) P_i168_0 rfl (show P_aw _ _ _ 1 [.ref (w.2.2 0)] [.ref (w.2.2 0)] _ _ from ?_)
  refine P_aw_getR P_i168_1 (hw.2.1 0 (by decide)) (hw.s rfl) rfl rfl (show P_aw _ _ _ 4 [.ref (w.2.2 0)] [.ref (w.2.2 29)] _ _ from ?_)
  refine P_aw_call P_i168_4 rfl rfl (fun _ => rfl) rfl rfl rfl rfl (y2 := 92) (as := [.ref (w.2.2 29)]) (r0 := []) (P_inv_v (hw.2.1 29 (by decide)) (hw.s rfl) rfl rfl) (Nat.le_of_ble_eq_true rfl) (by decide) rfl (Nat.le_of_ble_eq_true rfl) (show P_aw _ _ _ 0 [.ref (w.2.2 29)] [] _ _ from ?_)
  refine P_aw_op (L' := [.ref (w.2.2 29)]) (st' := [.ref (w.2.2 29)]) P_i92_0 rfl (show P_aw _ _ _ 1 [.ref (w.2.2 29)] [.ref (w.2.2 29)] _ _ from ?_)
  refine P_aw_getv P_i92_1 (hw.2.1 29 (by decide)) (hw.s rfl) rfl rfl (hrd1) (show P_aw _ _ _ 4 [.ref (w.2.2 29)] [P_z 1] _ _ from ?_)
  refine P_aw_end P_i92_4 rfl rfl (fun _ => rfl) rfl ?_
  show P_aw _ _ _ 7 [.ref (w.2.2 0)] [P_z 1] _ _
  refine P_aw_izt P_i168_7 ⟨by decide, by decide⟩ (P_ci_net (by omega)) (show P_aw _ _ _ 21 [.ref (w.2.2 0)] [] _ _ from ?_)
  refine P_aw_end P_i168_21 rfl rfl (fun _ => rfl) rfl ?_
  show P_aw _ _ _ 4 [.ref (w.2.2 0)] [] _ _
  refine P_aw_op (L' := [.ref (w.2.2 0)]) (st' := [.ref (w.2.2 0)]) P_i154_4 rfl (show P_aw _ _ _ 5 [.ref (w.2.2 0)] [.ref (w.2.2 0)] _ _ from ?_)
  refine P_aw_getR P_i154_5 (hw.2.1 0 (by decide)) (hw.s rfl) rfl rfl (show P_aw _ _ _ 8 [.ref (w.2.2 0)] [.ref (w.2.2 44)] _ _ from ?_)
  refine P_aw_call P_i154_8 rfl rfl (fun _ => rfl) rfl rfl rfl rfl (y2 := 84) (as := [.ref (w.2.2 44)]) (r0 := []) (P_inv_v hw.2.2 (hw.s rfl) rfl rfl) (Nat.le_of_ble_eq_true rfl) (by decide) rfl (Nat.le_of_ble_eq_true rfl) (show P_aw _ _ _ 0 [.ref (w.2.2 44)] [] _ _ from ?_)
  refine P_aw_op (L' := [.ref (w.2.2 44)]) (st' := [.ref (w.2.2 44)]) P_i84_0 rfl (show P_aw _ _ _ 1 [.ref (w.2.2 44)] [.ref (w.2.2 44)] _ _ from ?_)
  refine P_aw_call P_i84_1 rfl rfl (fun _ => rfl) rfl rfl rfl rfl (y2 := 85) (as := [.ref (w.2.2 44)]) (r0 := []) (P_inv_v hw.2.2 (hw.s rfl) rfl rfl) (Nat.le_of_ble_eq_true rfl) (by decide) rfl (Nat.le_of_ble_eq_true rfl) (show P_aw _ _ _ 0 [.ref (w.2.2 44)] [] _ _ from ?_)
  refine P_aw_op (L' := [.ref (w.2.2 44)]) (st' := [.ref (w.2.2 44)]) P_i85_0 rfl (show P_aw _ _ _ 1 [.ref (w.2.2 44)] [.ref (w.2.2 44)] _ _ from ?_)
  refine P_aw_op (L' := [.ref (w.2.2 44)]) (st' := [P_z 0, .ref (w.2.2 44)]) P_i85_1 rfl (show P_aw _ _ _ 2 [.ref (w.2.2 44)] [P_z 0, .ref (w.2.2 44)] _ _ from ?_)
  refine P_aw_put P_i85_2 hw.2.2 (hw.s rfl) rfl rfl rfl (show P_aw _ _ _ 5 [.ref (w.2.2 44)] [] _ _ from ?_)
  refine P_aw_op (L' := [.ref (w.2.2 44)]) (st' := [.ref (w.2.2 44)]) P_i85_5 rfl (show P_aw _ _ _ 6 [.ref (w.2.2 44)] [.ref (w.2.2 44)] _ _ from ?_)
  refine P_aw_op (L' := [.ref (w.2.2 44)]) (st' := [P_z 0, .ref (w.2.2 44)]) P_i85_6 rfl (show P_aw _ _ _ 7 [.ref (w.2.2 44)] [P_z 0, .ref (w.2.2 44)] _ _ from ?_)
  refine P_aw_put P_i85_7 hw.2.2 (hw.s rfl) rfl rfl rfl (show P_aw _ _ _ 10 [.ref (w.2.2 44)] [] _ _ from ?_)
  refine P_aw_op (L' := [.ref (w.2.2 44)]) (st' := [.ref (w.2.2 44)]) P_i85_10 rfl (show P_aw _ _ _ 11 [.ref (w.2.2 44)] [.ref (w.2.2 44)] _ _ from ?_)
  refine P_aw_op (L' := [.ref (w.2.2 44)]) (st' := [P_z 0, .ref (w.2.2 44)]) P_i85_11 rfl (show P_aw _ _ _ 12 [.ref (w.2.2 44)] [P_z 0, .ref (w.2.2 44)] _ _ from ?_)
  refine P_aw_put P_i85_12 hw.2.2 (hw.s rfl) rfl rfl rfl (show P_aw _ _ _ 15 [.ref (w.2.2 44)] [] _ _ from ?_)
  refine P_aw_op (L' := [.ref (w.2.2 44)]) (st' := [.ref (w.2.2 44)]) P_i85_15 rfl (show P_aw _ _ _ 16 [.ref (w.2.2 44)] [.ref (w.2.2 44)] _ _ from ?_)
  refine P_aw_op (L' := [.ref (w.2.2 44)]) (st' := [P_z 0, .ref (w.2.2 44)]) P_i85_16 rfl (show P_aw _ _ _ 17 [.ref (w.2.2 44)] [P_z 0, .ref (w.2.2 44)] _ _ from ?_)
  refine P_aw_put P_i85_17 hw.2.2 (hw.s rfl) rfl rfl rfl (show P_aw _ _ _ 20 [.ref (w.2.2 44)] [] _ _ from ?_)
  refine P_aw_end P_i85_20 rfl rfl (fun _ => rfl) rfl ?_
  show P_aw _ _ _ 4 [.ref (w.2.2 44)] [] _ _
  refine P_aw_op (L' := [.ref (w.2.2 44)]) (st' := [.ref (w.2.2 44)]) P_i84_4 rfl (show P_aw _ _ _ 5 [.ref (w.2.2 44)] [.ref (w.2.2 44)] _ _ from ?_)
  refine P_aw_op (L' := [.ref (w.2.2 44)]) (st' := [P_z 1, .ref (w.2.2 44)]) P_i84_5 rfl (show P_aw _ _ _ 6 [.ref (w.2.2 44)] [P_z 1, .ref (w.2.2 44)] _ _ from ?_)
  refine P_aw_put P_i84_6 hw.2.2 (hw.s rfl) rfl rfl rfl (show P_aw _ _ _ 9 [.ref (w.2.2 44)] [] _ _ from ?_)
  refine P_aw_end P_i84_9 rfl rfl (fun _ => rfl) rfl ?_
  show P_aw _ _ _ 11 [.ref (w.2.2 0)] [] _ _
  refine P_aw_op (L' := [.ref (w.2.2 0)]) (st' := [.ref (w.2.2 0)]) P_i154_11 rfl (show P_aw _ _ _ 12 [.ref (w.2.2 0)] [.ref (w.2.2 0)] _ _ from ?_)
  refine P_aw_getR P_i154_12 (hw.2.1 0 (by decide)) (hw.s rfl) rfl rfl (show P_aw _ _ _ 15 [.ref (w.2.2 0)] [.ref (w.2.2 6)] _ _ from ?_)
  refine P_aw_call P_i154_15 rfl rfl (fun _ => rfl) rfl rfl rfl rfl (y2 := 29) (as := [.ref (w.2.2 6)]) (r0 := []) (P_inv_v (hw.2.1 6 (by decide)) (hw.s rfl) rfl rfl) (Nat.le_of_ble_eq_true rfl) (by decide) rfl (Nat.le_of_ble_eq_true rfl) (show P_aw _ _ _ 0 [.ref (w.2.2 6)] [] _ _ from ?_)
  refine P_aw_op (L' := [.ref (w.2.2 6)]) (st' := [.ref (w.2.2 6)]) P_i29_0 rfl (show P_aw _ _ _ 1 [.ref (w.2.2 6)] [.ref (w.2.2 6)] _ _ from ?_)
  have hg1 := hF.2.1
  refine P_aw_getv P_i29_1 (hw.2.1 6 (by decide)) (hw.s rfl) rfl rfl ((P_u2_ne (by omega)).trans ((P_u2_ne (by omega)).trans ((P_u2_ne (by omega)).trans ((P_u2_ne (by omega)).trans ((P_u2_ne (by omega)).trans (hF.1)))))) (show P_aw _ _ _ 4 [.ref (w.2.2 6)] [P_z it] _ _ from ?_)
  refine P_aw_end P_i29_4 rfl rfl (fun _ => rfl) rfl ?_
  show P_aw _ _ _ 18 [.ref (w.2.2 0)] [P_z it] _ _
  refine P_aw_end P_i154_18 rfl rfl (fun _ => rfl) rfl ?_
  exact q

theorem s_isE {w : P_Lw} (hw : P_Cw w) {d : Nat} {Q : P_R → P_A → Prop} {σ : P_A} {ns : Int} {tb : Int → Nat} {rw : Int → Int} {vr : Int → Int → Int} {cl : Int → Int} {V : Int → Int → Int → Int} {cs : List A_cd} {od : Int → Int} {it : Int} {ki ci : Int → Int} {gp oi lm : Int} {nv : Int} (hB : A_B w σ ns tb rw vr cl V cs od it ki ci gp oi lm nv)  (q : Q (.inl (some (P_z nv))) σ) : P_aw w (d + 8) 153 0 [.ref (w.2.2 0)] [] σ Q := by
  obtain ⟨hA, hX, hF, hK, hO, hok, htk, hN, hn01, hrd1, hfp⟩ := id hB
  have hns := hA.2.1
  have hit := hF.2.1
  have hsz0 := hK.2.1
  refine P_aw_op (L' := [.ref (w.2.2 0)]) (st' := [.ref (w.2.2 0)]) P_i153_0 rfl (show P_aw _ _ _ 1 [.ref (w.2.2 0)] [.ref (w.2.2 0)] _ _ from ?_)
  refine P_aw_call P_i153_1 rfl rfl (fun _ => rfl) rfl rfl rfl rfl (y2 := 168) (as := [.ref (w.2.2 0)]) (r0 := []) (P_inv_v (hw.2.1 0 (by decide)) (hw.s rfl) rfl rfl) (Nat.le_of_ble_eq_true rfl) (by decide) rfl (Nat.le_of_ble_eq_true rfl) (show P_aw _ _ _ 0 [.ref (w.2.2 0)] [] _ _ from ?_)
  refine P_aw_op (L' := [.ref (w.2.2 0)]) (st' := [.ref (w.2.2 0)]) P_i168_0 rfl (show P_aw _ _ _ 1 [.ref (w.2.2 0)] [.ref (w.2.2 0)] _ _ from ?_)
  refine P_aw_getR P_i168_1 (hw.2.1 0 (by decide)) (hw.s rfl) rfl rfl (show P_aw _ _ _ 4 [.ref (w.2.2 0)] [.ref (w.2.2 29)] _ _ from ?_)
  refine P_aw_call P_i168_4 rfl rfl (fun _ => rfl) rfl rfl rfl rfl (y2 := 92) (as := [.ref (w.2.2 29)]) (r0 := []) (P_inv_v (hw.2.1 29 (by decide)) (hw.s rfl) rfl rfl) (Nat.le_of_ble_eq_true rfl) (by decide) rfl (Nat.le_of_ble_eq_true rfl) (show P_aw _ _ _ 0 [.ref (w.2.2 29)] [] _ _ from ?_)
  refine P_aw_op (L' := [.ref (w.2.2 29)]) (st' := [.ref (w.2.2 29)]) P_i92_0 rfl (show P_aw _ _ _ 1 [.ref (w.2.2 29)] [.ref (w.2.2 29)] _ _ from ?_)
  refine P_aw_getv P_i92_1 (hw.2.1 29 (by decide)) (hw.s rfl) rfl rfl (hrd1) (show P_aw _ _ _ 4 [.ref (w.2.2 29)] [P_z 1] _ _ from ?_)
  refine P_aw_end P_i92_4 rfl rfl (fun _ => rfl) rfl ?_
  show P_aw _ _ _ 7 [.ref (w.2.2 0)] [P_z 1] _ _
  refine P_aw_izt P_i168_7 ⟨by decide, by decide⟩ (P_ci_net (by omega)) (show P_aw _ _ _ 21 [.ref (w.2.2 0)] [] _ _ from ?_)
  refine P_aw_end P_i168_21 rfl rfl (fun _ => rfl) rfl ?_
  show P_aw _ _ _ 4 [.ref (w.2.2 0)] [] _ _
  refine P_aw_op (L' := [.ref (w.2.2 0)]) (st' := [.ref (w.2.2 0)]) P_i153_4 rfl (show P_aw _ _ _ 5 [.ref (w.2.2 0)] [.ref (w.2.2 0)] _ _ from ?_)
  refine P_aw_getR P_i153_5 (hw.2.1 0 (by decide)) (hw.s rfl) rfl rfl (show P_aw _ _ _ 8 [.ref (w.2.2 0)] [.ref (w.2.2 13)] _ _ from ?_)
  refine P_aw_call P_i153_8 rfl rfl (fun _ => rfl) rfl rfl rfl rfl (y2 := 57) (as := [.ref (w.2.2 13)]) (r0 := []) (P_inv_v (hw.2.1 13 (by decide)) (hw.s rfl) rfl rfl) (Nat.le_of_ble_eq_true rfl) (by decide) rfl (Nat.le_of_ble_eq_true rfl) (show P_aw _ _ _ 0 [.ref (w.2.2 13)] [] _ _ from ?_)
  refine P_aw_op (L' := [.ref (w.2.2 13)]) (st' := [.ref (w.2.2 13)]) P_i57_0 rfl (show P_aw _ _ _ 1 [.ref (w.2.2 13)] [.ref (w.2.2 13)] _ _ from ?_)
  refine P_aw_getv P_i57_1 (hw.2.1 13 (by decide)) (hw.s rfl) rfl rfl (hN) (show P_aw _ _ _ 4 [.ref (w.2.2 13)] [P_z nv] _ _ from ?_)
  refine P_aw_end P_i57_4 rfl rfl (fun _ => rfl) (P_ret_b (by omega)) ?_
  show P_aw _ _ _ 11 [.ref (w.2.2 0)] [P_z nv] _ _
  refine P_aw_end P_i153_11 rfl rfl (fun _ => rfl) (P_ret_b (by omega)) ?_
  exact q

theorem s_fat {w : P_Lw} (hw : P_Cw w) {d : Nat} {Q : P_R → P_A → Prop} {σ : P_A} {ns : Int} {tb : Int → Nat} {rw : Int → Int} {vr : Int → Int → Int} {cl : Int → Int} {V : Int → Int → Int → Int} {cs : List A_cd} {od : Int → Int} {it : Int} {ki ci : Int → Int} {gp oi lm : Int} {nv : Int} (hB : A_B w σ ns tb rw vr cl V cs od it ki ci gp oi lm nv)  (q : Q (.inl (some (P_z (-1)))) σ) : P_aw w (d + 8) 144 0 [.ref (w.2.2 0)] [] σ Q := by
  obtain ⟨hA, hX, hF, hK, hO, hok, htk, hN, hn01, hrd1, hfp⟩ := id hB
  have hns := hA.2.1
  have hit := hF.2.1
  have hsz0 := hK.2.1
  refine P_aw_op (L' := [.ref (w.2.2 0)]) (st' := [.ref (w.2.2 0)]) P_i144_0 rfl (show P_aw _ _ _ 1 [.ref (w.2.2 0)] [.ref (w.2.2 0)] _ _ from ?_)
  refine P_aw_getR P_i144_1 (hw.2.1 0 (by decide)) (hw.s rfl) rfl rfl (show P_aw _ _ _ 4 [.ref (w.2.2 0)] [.ref (w.2.2 29)] _ _ from ?_)
  refine P_aw_call P_i144_4 rfl rfl (fun _ => rfl) rfl rfl rfl rfl (y2 := 93) (as := [.ref (w.2.2 29)]) (r0 := []) (P_inv_v (hw.2.1 29 (by decide)) (hw.s rfl) rfl rfl) (Nat.le_of_ble_eq_true rfl) (by decide) rfl (Nat.le_of_ble_eq_true rfl) (show P_aw _ _ _ 0 [.ref (w.2.2 29)] [] _ _ from ?_)
  refine P_aw_op (L' := [.ref (w.2.2 29)]) (st' := [.ref (w.2.2 29)]) P_i93_0 rfl (show P_aw _ _ _ 1 [.ref (w.2.2 29)] [.ref (w.2.2 29)] _ _ from ?_)
  refine P_aw_getv P_i93_1 (hw.2.1 29 (by decide)) (hw.s rfl) rfl rfl (hfp) (show P_aw _ _ _ 4 [.ref (w.2.2 29)] [P_z (-1)] _ _ from ?_)
  refine P_aw_end P_i93_4 rfl rfl (fun _ => rfl) rfl ?_
  show P_aw _ _ _ 7 [.ref (w.2.2 0)] [P_z (-1)] _ _
  refine P_aw_end P_i144_7 rfl rfl (fun _ => rfl) rfl ?_
  exact q

theorem s_cnd3 {w : P_Lw} (hw : P_Cw w) {d : Nat} {Q : P_R → P_A → Prop} {σ : P_A} {ns : Int} {tb : Int → Nat} {rw : Int → Int} {vr : Int → Int → Int} {cl : Int → Int} {V : Int → Int → Int → Int} {cs : List A_cd} {od : Int → Int} {it : Int} {ki ci : Int → Int} {gp oi lm : Int} {nv : Int} (hB : A_B w σ ns tb rw vr cl V cs od it ki ci gp oi lm nv) {k : Int} (hk : 0 ≤ k ∧ k < (cs.length : Int)) (q : Q (.inl (some (P_z (A_lc cs k 3)))) σ) : P_aw w (d + 8) 146 0 [.ref (w.2.2 0), P_z k, P_z 3] [] σ Q := by
  obtain ⟨hA, hX, hF, hK, hO, hok, htk, hN, hn01, hrd1, hfp⟩ := id hB
  have hns := hA.2.1
  have hit := hF.2.1
  have hsz0 := hK.2.1
  obtain ⟨y, hmem, hy⟩ := A_lc_el hk
  have hoy : A_ok ns y := hok y hmem
  have hoky := A_ok_rg hoy
  refine P_aw_op (L' := [.ref (w.2.2 0), P_z k, P_z 3]) (st' := [.ref (w.2.2 0)]) P_i146_0 rfl (show P_aw _ _ _ 1 [.ref (w.2.2 0), P_z k, P_z 3] [.ref (w.2.2 0)] _ _ from ?_)
  refine P_aw_call P_i146_1 rfl rfl (fun _ => rfl) rfl rfl rfl rfl (y2 := 168) (as := [.ref (w.2.2 0)]) (r0 := []) (P_inv_v (hw.2.1 0 (by decide)) (hw.s rfl) rfl rfl) (Nat.le_of_ble_eq_true rfl) (by decide) rfl (Nat.le_of_ble_eq_true rfl) (show P_aw _ _ _ 0 [.ref (w.2.2 0)] [] _ _ from ?_)
  refine P_aw_op (L' := [.ref (w.2.2 0)]) (st' := [.ref (w.2.2 0)]) P_i168_0 rfl (show P_aw _ _ _ 1 [.ref (w.2.2 0)] [.ref (w.2.2 0)] _ _ from ?_)
  refine P_aw_getR P_i168_1 (hw.2.1 0 (by decide)) (hw.s rfl) rfl rfl (show P_aw _ _ _ 4 [.ref (w.2.2 0)] [.ref (w.2.2 29)] _ _ from ?_)
  refine P_aw_call P_i168_4 rfl rfl (fun _ => rfl) rfl rfl rfl rfl (y2 := 92) (as := [.ref (w.2.2 29)]) (r0 := []) (P_inv_v (hw.2.1 29 (by decide)) (hw.s rfl) rfl rfl) (Nat.le_of_ble_eq_true rfl) (by decide) rfl (Nat.le_of_ble_eq_true rfl) (show P_aw _ _ _ 0 [.ref (w.2.2 29)] [] _ _ from ?_)
  refine P_aw_op (L' := [.ref (w.2.2 29)]) (st' := [.ref (w.2.2 29)]) P_i92_0 rfl (show P_aw _ _ _ 1 [.ref (w.2.2 29)] [.ref (w.2.2 29)] _ _ from ?_)
  refine P_aw_getv P_i92_1 (hw.2.1 29 (by decide)) (hw.s rfl) rfl rfl (hrd1) (show P_aw _ _ _ 4 [.ref (w.2.2 29)] [P_z 1] _ _ from ?_)
  refine P_aw_end P_i92_4 rfl rfl (fun _ => rfl) rfl ?_
  show P_aw _ _ _ 7 [.ref (w.2.2 0)] [P_z 1] _ _
  refine P_aw_izt P_i168_7 ⟨by decide, by decide⟩ (P_ci_net (by omega)) (show P_aw _ _ _ 21 [.ref (w.2.2 0)] [] _ _ from ?_)
  refine P_aw_end P_i168_21 rfl rfl (fun _ => rfl) rfl ?_
  show P_aw _ _ _ 4 [.ref (w.2.2 0), P_z k, P_z 3] [] _ _
  refine P_aw_op (L' := [.ref (w.2.2 0), P_z k, P_z 3]) (st' := [.ref (w.2.2 0)]) P_i146_4 rfl (show P_aw _ _ _ 5 [.ref (w.2.2 0), P_z k, P_z 3] [.ref (w.2.2 0)] _ _ from ?_)
  refine P_aw_getR P_i146_5 (hw.2.1 0 (by decide)) (hw.s rfl) rfl rfl (show P_aw _ _ _ 8 [.ref (w.2.2 0), P_z k, P_z 3] [.ref (w.2.2 13)] _ _ from ?_)
  refine P_aw_op (L' := [.ref (w.2.2 0), P_z k, P_z 3]) (st' := [P_z k, .ref (w.2.2 13)]) P_i146_8 rfl (show P_aw _ _ _ 9 [.ref (w.2.2 0), P_z k, P_z 3] [P_z k, .ref (w.2.2 13)] _ _ from ?_)
  refine P_aw_call P_i146_9 rfl rfl (fun _ => rfl) rfl rfl rfl rfl (y2 := 56) (as := [.ref (w.2.2 13), P_z k]) (r0 := []) (P_inv_v (hw.2.1 13 (by decide)) (hw.s rfl) rfl rfl) (Nat.le_of_ble_eq_true rfl) (by decide) rfl (Nat.le_of_ble_eq_true rfl) (show P_aw _ _ _ 0 [.ref (w.2.2 13), P_z k] [] _ _ from ?_)
  refine P_aw_op (L' := [.ref (w.2.2 13), P_z k]) (st' := [P_z k]) P_i56_0 rfl (show P_aw _ _ _ 1 [.ref (w.2.2 13), P_z k] [P_z k] _ _ from ?_)
  refine P_aw_izf P_i56_1 ⟨by omega, by omega⟩ (P_ci_ltf (by omega)) (show P_aw _ _ _ 4 [.ref (w.2.2 13), P_z k] [] _ _ from ?_)
  refine P_aw_op (L' := [.ref (w.2.2 13), P_z k]) (st' := [P_z k]) P_i56_4 rfl (show P_aw _ _ _ 5 [.ref (w.2.2 13), P_z k] [P_z k] _ _ from ?_)
  refine P_aw_op (L' := [.ref (w.2.2 13), P_z k]) (st' := [.ref (w.2.2 13), P_z k]) P_i56_5 rfl (show P_aw _ _ _ 6 [.ref (w.2.2 13), P_z k] [.ref (w.2.2 13), P_z k] _ _ from ?_)
  have hg1 := hK.2.1
  refine P_aw_getv P_i56_6 (hw.2.1 13 (by decide)) (hw.s rfl) rfl rfl (hK.1) (show P_aw _ _ _ 9 [.ref (w.2.2 13), P_z k] [P_z (cs.length : Int), P_z k] _ _ from ?_)
  refine P_aw_icf P_i56_9 ⟨by omega, by omega⟩ ⟨by omega, by omega⟩ (P_ci_gef (by omega)) (show P_aw _ _ _ 12 [.ref (w.2.2 13), P_z k] [] _ _ from ?_)
  refine P_aw_op (L' := [.ref (w.2.2 13), P_z k]) (st' := [P_z 1]) P_i56_12 rfl (show P_aw _ _ _ 13 [.ref (w.2.2 13), P_z k] [P_z 1] _ _ from ?_)
  refine P_aw_goto P_i56_13 (show P_aw _ _ _ 17 [.ref (w.2.2 13), P_z k] [P_z 1] _ _ from ?_)
  refine P_aw_end P_i56_17 rfl rfl (fun _ => rfl) rfl ?_
  show P_aw _ _ _ 12 [.ref (w.2.2 0), P_z k, P_z 3] [P_z 1] _ _
  refine P_aw_izt P_i146_12 ⟨by decide, by decide⟩ (P_ci_net (by omega)) (show P_aw _ _ _ 25 [.ref (w.2.2 0), P_z k, P_z 3] [] _ _ from ?_)
  refine P_aw_op (L' := [.ref (w.2.2 0), P_z k, P_z 3]) (st' := [P_z 3]) P_i146_25 rfl (show P_aw _ _ _ 26 [.ref (w.2.2 0), P_z k, P_z 3] [P_z 3] _ _ from ?_)
  refine P_aw_izf P_i146_26 ⟨by decide, by decide⟩ (P_ci_ltf (by omega)) (show P_aw _ _ _ 29 [.ref (w.2.2 0), P_z k, P_z 3] [] _ _ from ?_)
  refine P_aw_op (L' := [.ref (w.2.2 0), P_z k, P_z 3]) (st' := [P_z 3]) P_i146_29 rfl (show P_aw _ _ _ 30 [.ref (w.2.2 0), P_z k, P_z 3] [P_z 3] _ _ from ?_)
  refine P_aw_op (L' := [.ref (w.2.2 0), P_z k, P_z 3]) (st' := [P_z 5, P_z 3]) P_i146_30 rfl (show P_aw _ _ _ 31 [.ref (w.2.2 0), P_z k, P_z 3] [P_z 5, P_z 3] _ _ from ?_)
  refine P_aw_ict P_i146_31 ⟨by decide, by decide⟩ ⟨by decide, by decide⟩ (P_ci_let (by omega)) (show P_aw _ _ _ 44 [.ref (w.2.2 0), P_z k, P_z 3] [] _ _ from ?_)
  refine P_aw_op (L' := [.ref (w.2.2 0), P_z k, P_z 3]) (st' := [.ref (w.2.2 0)]) P_i146_44 rfl (show P_aw _ _ _ 45 [.ref (w.2.2 0), P_z k, P_z 3] [.ref (w.2.2 0)] _ _ from ?_)
  refine P_aw_getR P_i146_45 (hw.2.1 0 (by decide)) (hw.s rfl) rfl rfl (show P_aw _ _ _ 48 [.ref (w.2.2 0), P_z k, P_z 3] [.ref (w.2.2 13)] _ _ from ?_)
  refine P_aw_op (L' := [.ref (w.2.2 0), P_z k, P_z 3]) (st' := [.ref (w.2.2 0), .ref (w.2.2 13)]) P_i146_48 rfl (show P_aw _ _ _ 49 [.ref (w.2.2 0), P_z k, P_z 3] [.ref (w.2.2 0), .ref (w.2.2 13)] _ _ from ?_)
  refine P_aw_getR P_i146_49 (hw.2.1 0 (by decide)) (hw.s rfl) rfl rfl (show P_aw _ _ _ 52 [.ref (w.2.2 0), P_z k, P_z 3] [.ref (w.2.2 13), .ref (w.2.2 13)] _ _ from ?_)
  refine P_aw_op (L' := [.ref (w.2.2 0), P_z k, P_z 3]) (st' := [P_z k, .ref (w.2.2 13), .ref (w.2.2 13)]) P_i146_52 rfl (show P_aw _ _ _ 53 [.ref (w.2.2 0), P_z k, P_z 3] [P_z k, .ref (w.2.2 13), .ref (w.2.2 13)] _ _ from ?_)
  refine P_aw_call P_i146_53 rfl rfl (fun _ => rfl) rfl rfl rfl rfl (y2 := 59) (as := [.ref (w.2.2 13), P_z k]) (r0 := [.ref (w.2.2 13)]) (P_inv_v (hw.2.1 13 (by decide)) (hw.s rfl) rfl rfl) (Nat.le_of_ble_eq_true rfl) (by decide) rfl (Nat.le_of_ble_eq_true rfl) (show P_aw _ _ _ 0 [.ref (w.2.2 13), P_z k, P_un] [] _ _ from ?_)
  refine P_aw_op (L' := [.ref (w.2.2 13), P_z k, P_un]) (st' := [P_z k]) P_i59_0 rfl (show P_aw _ _ _ 1 [.ref (w.2.2 13), P_z k, P_un] [P_z k] _ _ from ?_)
  refine P_aw_izf P_i59_1 ⟨by omega, by omega⟩ (P_ci_ltf (by omega)) (show P_aw _ _ _ 4 [.ref (w.2.2 13), P_z k, P_un] [] _ _ from ?_)
  refine P_aw_op (L' := [.ref (w.2.2 13), P_z k, P_un]) (st' := [P_z k]) P_i59_4 rfl (show P_aw _ _ _ 5 [.ref (w.2.2 13), P_z k, P_un] [P_z k] _ _ from ?_)
  refine P_aw_op (L' := [.ref (w.2.2 13), P_z k, P_un]) (st' := [.ref (w.2.2 13), P_z k]) P_i59_5 rfl (show P_aw _ _ _ 6 [.ref (w.2.2 13), P_z k, P_un] [.ref (w.2.2 13), P_z k] _ _ from ?_)
  refine P_aw_getR P_i59_6 (hw.2.1 13 (by decide)) (hw.s rfl) rfl rfl (show P_aw _ _ _ 9 [.ref (w.2.2 13), P_z k, P_un] [.ref (w.2.2 14), P_z k] _ _ from ?_)
  refine P_aw_clen P_i59_9 (hw.2.1 14 (by decide)) (hw.s rfl) rfl (show P_aw _ _ _ 10 [.ref (w.2.2 13), P_z k, P_un] [P_z 12, P_z k] _ _ from ?_)
  refine P_aw_ict P_i59_10 ⟨by omega, by omega⟩ ⟨by decide, by decide⟩ (P_ci_ltt (by omega)) (show P_aw _ _ _ 18 [.ref (w.2.2 13), P_z k, P_un] [] _ _ from ?_)
  refine P_aw_op (L' := [.ref (w.2.2 13), P_z k, P_un]) (st' := [.ref (w.2.2 13)]) P_i59_18 rfl (show P_aw _ _ _ 19 [.ref (w.2.2 13), P_z k, P_un] [.ref (w.2.2 13)] _ _ from ?_)
  refine P_aw_getR P_i59_19 (hw.2.1 13 (by decide)) (hw.s rfl) rfl rfl (show P_aw _ _ _ 22 [.ref (w.2.2 13), P_z k, P_un] [.ref (w.2.2 14)] _ _ from ?_)
  refine P_aw_op (L' := [.ref (w.2.2 13), P_z k, P_un]) (st' := [P_z k, .ref (w.2.2 14)]) P_i59_22 rfl (show P_aw _ _ _ 23 [.ref (w.2.2 13), P_z k, P_un] [P_z k, .ref (w.2.2 14)] _ _ from ?_)
  refine P_aw_cld P_i59_23 (hw.2.1 14 (by decide)) (hw.s rfl) (by decide) (by omega) (P_c12 (by omega)) (by decide) (show P_aw _ _ _ 24 [.ref (w.2.2 13), P_z k, P_un] [.ref (w.2.2 (15 + k.toNat))] _ _ from ?_)
  refine P_aw_op (L' := [.ref (w.2.2 13), P_z k, .ref (w.2.2 (15 + k.toNat))]) (st' := []) P_i59_24 rfl (show P_aw _ _ _ 25 [.ref (w.2.2 13), P_z k, .ref (w.2.2 (15 + k.toNat))] [] _ _ from ?_)
  refine P_aw_op (L' := [.ref (w.2.2 13), P_z k, .ref (w.2.2 (15 + k.toNat))]) (st' := [.ref (w.2.2 (15 + k.toNat))]) P_i59_25 rfl (show P_aw _ _ _ 26 [.ref (w.2.2 13), P_z k, .ref (w.2.2 (15 + k.toNat))] [.ref (w.2.2 (15 + k.toNat))] _ _ from ?_)
  refine P_aw_brt P_i59_26 rfl (show P_aw _ _ _ 36 [.ref (w.2.2 13), P_z k, .ref (w.2.2 (15 + k.toNat))] [] _ _ from ?_)
  refine P_aw_op (L' := [.ref (w.2.2 13), P_z k, .ref (w.2.2 (15 + k.toNat))]) (st' := [.ref (w.2.2 (15 + k.toNat))]) P_i59_36 rfl (show P_aw _ _ _ 37 [.ref (w.2.2 13), P_z k, .ref (w.2.2 (15 + k.toNat))] [.ref (w.2.2 (15 + k.toNat))] _ _ from ?_)
  refine P_aw_end P_i59_37 rfl rfl (fun _ => rfl) rfl ?_
  show P_aw _ _ _ 56 [.ref (w.2.2 0), P_z k, P_z 3] [.ref (w.2.2 (15 + k.toNat)), .ref (w.2.2 13)] _ _
  refine P_aw_op (L' := [.ref (w.2.2 0), P_z k, P_z 3]) (st' := [P_z 3, .ref (w.2.2 (15 + k.toNat)), .ref (w.2.2 13)]) P_i146_56 rfl (show P_aw _ _ _ 57 [.ref (w.2.2 0), P_z k, P_z 3] [P_z 3, .ref (w.2.2 (15 + k.toNat)), .ref (w.2.2 13)] _ _ from ?_)
  refine P_aw_call P_i146_57 rfl rfl (fun _ => rfl) rfl rfl rfl rfl (y2 := 62) (as := [.ref (w.2.2 13), .ref (w.2.2 (15 + k.toNat)), P_z 3]) (r0 := []) (P_inv_v (hw.2.1 13 (by decide)) (hw.s rfl) rfl rfl) (Nat.le_of_ble_eq_true rfl) (by decide) rfl (Nat.le_of_ble_eq_true rfl) (show P_aw _ _ _ 0 [.ref (w.2.2 13), .ref (w.2.2 (15 + k.toNat)), P_z 3] [] _ _ from ?_)
  refine P_aw_op (L' := [.ref (w.2.2 13), .ref (w.2.2 (15 + k.toNat)), P_z 3]) (st' := [P_z 3]) P_i62_0 rfl (show P_aw _ _ _ 1 [.ref (w.2.2 13), .ref (w.2.2 (15 + k.toNat)), P_z 3] [P_z 3] _ _ from ?_)
  refine P_aw_sw P_i62_1 (by decide +kernel) (show P_aw _ _ _ 51 [.ref (w.2.2 13), .ref (w.2.2 (15 + k.toNat)), P_z 3] [] _ _ from ?_)
  refine P_aw_op (L' := [.ref (w.2.2 13), .ref (w.2.2 (15 + k.toNat)), P_z 3]) (st' := [.ref (w.2.2 (15 + k.toNat))]) P_i62_51 rfl (show P_aw _ _ _ 52 [.ref (w.2.2 13), .ref (w.2.2 (15 + k.toNat)), P_z 3] [.ref (w.2.2 (15 + k.toNat))] _ _ from ?_)
  have hg2 := A_ok_rg hoy
  refine P_aw_getv P_i62_52 (hw.c (by omega)).2 (hw.c (by omega)).1 rfl rfl ((hK.2.2 k 3 (by omega) (by omega) (by omega)).trans (hy 3)) (show P_aw _ _ _ 55 [.ref (w.2.2 13), .ref (w.2.2 (15 + k.toNat)), P_z 3] [P_z (A_cf y 3)] _ _ from ?_)
  refine P_aw_end P_i62_55 rfl rfl (fun _ => rfl) rfl ?_
  show P_aw _ _ _ 60 [.ref (w.2.2 0), P_z k, P_z 3] [P_z (A_cf y 3)] _ _
  refine P_aw_end P_i146_60 rfl rfl (fun _ => rfl) rfl ?_
  exact P_qz (hy 3).symm rfl q

theorem s_cnd4 {w : P_Lw} (hw : P_Cw w) {d : Nat} {Q : P_R → P_A → Prop} {σ : P_A} {ns : Int} {tb : Int → Nat} {rw : Int → Int} {vr : Int → Int → Int} {cl : Int → Int} {V : Int → Int → Int → Int} {cs : List A_cd} {od : Int → Int} {it : Int} {ki ci : Int → Int} {gp oi lm : Int} {nv : Int} (hB : A_B w σ ns tb rw vr cl V cs od it ki ci gp oi lm nv) {k : Int} (hk : 0 ≤ k ∧ k < (cs.length : Int)) (q : Q (.inl (some (P_z (A_low od (A_lc cs k 0) (A_lc cs k 2))))) σ) : P_aw w (d + 8) 146 0 [.ref (w.2.2 0), P_z k, P_z 4] [] σ Q := by
  obtain ⟨hA, hX, hF, hK, hO, hok, htk, hN, hn01, hrd1, hfp⟩ := id hB
  have hns := hA.2.1
  have hit := hF.2.1
  have hsz0 := hK.2.1
  obtain ⟨y, hmem, hy⟩ := A_lc_el hk
  have hoy : A_ok ns y := hok y hmem
  have hoky := A_ok_rg hoy
  have hC := A_CK hK hok
  refine P_aw_op (L' := [.ref (w.2.2 0), P_z k, P_z 4]) (st' := [.ref (w.2.2 0)]) P_i146_0 rfl (show P_aw _ _ _ 1 [.ref (w.2.2 0), P_z k, P_z 4] [.ref (w.2.2 0)] _ _ from ?_)
  refine P_aw_call P_i146_1 rfl rfl (fun _ => rfl) rfl rfl rfl rfl (y2 := 168) (as := [.ref (w.2.2 0)]) (r0 := []) (P_inv_v (hw.2.1 0 (by decide)) (hw.s rfl) rfl rfl) (Nat.le_of_ble_eq_true rfl) (by decide) rfl (Nat.le_of_ble_eq_true rfl) (show P_aw _ _ _ 0 [.ref (w.2.2 0)] [] _ _ from ?_)
  refine P_aw_op (L' := [.ref (w.2.2 0)]) (st' := [.ref (w.2.2 0)]) P_i168_0 rfl (show P_aw _ _ _ 1 [.ref (w.2.2 0)] [.ref (w.2.2 0)] _ _ from ?_)
  refine P_aw_getR P_i168_1 (hw.2.1 0 (by decide)) (hw.s rfl) rfl rfl (show P_aw _ _ _ 4 [.ref (w.2.2 0)] [.ref (w.2.2 29)] _ _ from ?_)
  refine P_aw_call P_i168_4 rfl rfl (fun _ => rfl) rfl rfl rfl rfl (y2 := 92) (as := [.ref (w.2.2 29)]) (r0 := []) (P_inv_v (hw.2.1 29 (by decide)) (hw.s rfl) rfl rfl) (Nat.le_of_ble_eq_true rfl) (by decide) rfl (Nat.le_of_ble_eq_true rfl) (show P_aw _ _ _ 0 [.ref (w.2.2 29)] [] _ _ from ?_)
  refine P_aw_op (L' := [.ref (w.2.2 29)]) (st' := [.ref (w.2.2 29)]) P_i92_0 rfl (show P_aw _ _ _ 1 [.ref (w.2.2 29)] [.ref (w.2.2 29)] _ _ from ?_)
  refine P_aw_getv P_i92_1 (hw.2.1 29 (by decide)) (hw.s rfl) rfl rfl (hrd1) (show P_aw _ _ _ 4 [.ref (w.2.2 29)] [P_z 1] _ _ from ?_)
  refine P_aw_end P_i92_4 rfl rfl (fun _ => rfl) rfl ?_
  show P_aw _ _ _ 7 [.ref (w.2.2 0)] [P_z 1] _ _
  refine P_aw_izt P_i168_7 ⟨by decide, by decide⟩ (P_ci_net (by omega)) (show P_aw _ _ _ 21 [.ref (w.2.2 0)] [] _ _ from ?_)
  refine P_aw_end P_i168_21 rfl rfl (fun _ => rfl) rfl ?_
  show P_aw _ _ _ 4 [.ref (w.2.2 0), P_z k, P_z 4] [] _ _
  refine P_aw_op (L' := [.ref (w.2.2 0), P_z k, P_z 4]) (st' := [.ref (w.2.2 0)]) P_i146_4 rfl (show P_aw _ _ _ 5 [.ref (w.2.2 0), P_z k, P_z 4] [.ref (w.2.2 0)] _ _ from ?_)
  refine P_aw_getR P_i146_5 (hw.2.1 0 (by decide)) (hw.s rfl) rfl rfl (show P_aw _ _ _ 8 [.ref (w.2.2 0), P_z k, P_z 4] [.ref (w.2.2 13)] _ _ from ?_)
  refine P_aw_op (L' := [.ref (w.2.2 0), P_z k, P_z 4]) (st' := [P_z k, .ref (w.2.2 13)]) P_i146_8 rfl (show P_aw _ _ _ 9 [.ref (w.2.2 0), P_z k, P_z 4] [P_z k, .ref (w.2.2 13)] _ _ from ?_)
  refine P_aw_call P_i146_9 rfl rfl (fun _ => rfl) rfl rfl rfl rfl (y2 := 56) (as := [.ref (w.2.2 13), P_z k]) (r0 := []) (P_inv_v (hw.2.1 13 (by decide)) (hw.s rfl) rfl rfl) (Nat.le_of_ble_eq_true rfl) (by decide) rfl (Nat.le_of_ble_eq_true rfl) (show P_aw _ _ _ 0 [.ref (w.2.2 13), P_z k] [] _ _ from ?_)
  refine P_aw_op (L' := [.ref (w.2.2 13), P_z k]) (st' := [P_z k]) P_i56_0 rfl (show P_aw _ _ _ 1 [.ref (w.2.2 13), P_z k] [P_z k] _ _ from ?_)
  refine P_aw_izf P_i56_1 ⟨by omega, by omega⟩ (P_ci_ltf (by omega)) (show P_aw _ _ _ 4 [.ref (w.2.2 13), P_z k] [] _ _ from ?_)
  refine P_aw_op (L' := [.ref (w.2.2 13), P_z k]) (st' := [P_z k]) P_i56_4 rfl (show P_aw _ _ _ 5 [.ref (w.2.2 13), P_z k] [P_z k] _ _ from ?_)
  refine P_aw_op (L' := [.ref (w.2.2 13), P_z k]) (st' := [.ref (w.2.2 13), P_z k]) P_i56_5 rfl (show P_aw _ _ _ 6 [.ref (w.2.2 13), P_z k] [.ref (w.2.2 13), P_z k] _ _ from ?_)
  have hg1 := hK.2.1
  refine P_aw_getv P_i56_6 (hw.2.1 13 (by decide)) (hw.s rfl) rfl rfl (hK.1) (show P_aw _ _ _ 9 [.ref (w.2.2 13), P_z k] [P_z (cs.length : Int), P_z k] _ _ from ?_)
  refine P_aw_icf P_i56_9 ⟨by omega, by omega⟩ ⟨by omega, by omega⟩ (P_ci_gef (by omega)) (show P_aw _ _ _ 12 [.ref (w.2.2 13), P_z k] [] _ _ from ?_)
  refine P_aw_op (L' := [.ref (w.2.2 13), P_z k]) (st' := [P_z 1]) P_i56_12 rfl (show P_aw _ _ _ 13 [.ref (w.2.2 13), P_z k] [P_z 1] _ _ from ?_)
  refine P_aw_goto P_i56_13 (show P_aw _ _ _ 17 [.ref (w.2.2 13), P_z k] [P_z 1] _ _ from ?_)
  refine P_aw_end P_i56_17 rfl rfl (fun _ => rfl) rfl ?_
  show P_aw _ _ _ 12 [.ref (w.2.2 0), P_z k, P_z 4] [P_z 1] _ _
  refine P_aw_izt P_i146_12 ⟨by decide, by decide⟩ (P_ci_net (by omega)) (show P_aw _ _ _ 25 [.ref (w.2.2 0), P_z k, P_z 4] [] _ _ from ?_)
  refine P_aw_op (L' := [.ref (w.2.2 0), P_z k, P_z 4]) (st' := [P_z 4]) P_i146_25 rfl (show P_aw _ _ _ 26 [.ref (w.2.2 0), P_z k, P_z 4] [P_z 4] _ _ from ?_)
  refine P_aw_izf P_i146_26 ⟨by decide, by decide⟩ (P_ci_ltf (by omega)) (show P_aw _ _ _ 29 [.ref (w.2.2 0), P_z k, P_z 4] [] _ _ from ?_)
  refine P_aw_op (L' := [.ref (w.2.2 0), P_z k, P_z 4]) (st' := [P_z 4]) P_i146_29 rfl (show P_aw _ _ _ 30 [.ref (w.2.2 0), P_z k, P_z 4] [P_z 4] _ _ from ?_)
  refine P_aw_op (L' := [.ref (w.2.2 0), P_z k, P_z 4]) (st' := [P_z 5, P_z 4]) P_i146_30 rfl (show P_aw _ _ _ 31 [.ref (w.2.2 0), P_z k, P_z 4] [P_z 5, P_z 4] _ _ from ?_)
  refine P_aw_ict P_i146_31 ⟨by decide, by decide⟩ ⟨by decide, by decide⟩ (P_ci_let (by omega)) (show P_aw _ _ _ 44 [.ref (w.2.2 0), P_z k, P_z 4] [] _ _ from ?_)
  refine P_aw_op (L' := [.ref (w.2.2 0), P_z k, P_z 4]) (st' := [.ref (w.2.2 0)]) P_i146_44 rfl (show P_aw _ _ _ 45 [.ref (w.2.2 0), P_z k, P_z 4] [.ref (w.2.2 0)] _ _ from ?_)
  refine P_aw_getR P_i146_45 (hw.2.1 0 (by decide)) (hw.s rfl) rfl rfl (show P_aw _ _ _ 48 [.ref (w.2.2 0), P_z k, P_z 4] [.ref (w.2.2 13)] _ _ from ?_)
  refine P_aw_op (L' := [.ref (w.2.2 0), P_z k, P_z 4]) (st' := [.ref (w.2.2 0), .ref (w.2.2 13)]) P_i146_48 rfl (show P_aw _ _ _ 49 [.ref (w.2.2 0), P_z k, P_z 4] [.ref (w.2.2 0), .ref (w.2.2 13)] _ _ from ?_)
  refine P_aw_getR P_i146_49 (hw.2.1 0 (by decide)) (hw.s rfl) rfl rfl (show P_aw _ _ _ 52 [.ref (w.2.2 0), P_z k, P_z 4] [.ref (w.2.2 13), .ref (w.2.2 13)] _ _ from ?_)
  refine P_aw_op (L' := [.ref (w.2.2 0), P_z k, P_z 4]) (st' := [P_z k, .ref (w.2.2 13), .ref (w.2.2 13)]) P_i146_52 rfl (show P_aw _ _ _ 53 [.ref (w.2.2 0), P_z k, P_z 4] [P_z k, .ref (w.2.2 13), .ref (w.2.2 13)] _ _ from ?_)
  refine P_aw_call P_i146_53 rfl rfl (fun _ => rfl) rfl rfl rfl rfl (y2 := 59) (as := [.ref (w.2.2 13), P_z k]) (r0 := [.ref (w.2.2 13)]) (P_inv_v (hw.2.1 13 (by decide)) (hw.s rfl) rfl rfl) (Nat.le_of_ble_eq_true rfl) (by decide) rfl (Nat.le_of_ble_eq_true rfl) (show P_aw _ _ _ 0 [.ref (w.2.2 13), P_z k, P_un] [] _ _ from ?_)
  refine P_aw_op (L' := [.ref (w.2.2 13), P_z k, P_un]) (st' := [P_z k]) P_i59_0 rfl (show P_aw _ _ _ 1 [.ref (w.2.2 13), P_z k, P_un] [P_z k] _ _ from ?_)
  refine P_aw_izf P_i59_1 ⟨by omega, by omega⟩ (P_ci_ltf (by omega)) (show P_aw _ _ _ 4 [.ref (w.2.2 13), P_z k, P_un] [] _ _ from ?_)
  refine P_aw_op (L' := [.ref (w.2.2 13), P_z k, P_un]) (st' := [P_z k]) P_i59_4 rfl (show P_aw _ _ _ 5 [.ref (w.2.2 13), P_z k, P_un] [P_z k] _ _ from ?_)
  refine P_aw_op (L' := [.ref (w.2.2 13), P_z k, P_un]) (st' := [.ref (w.2.2 13), P_z k]) P_i59_5 rfl (show P_aw _ _ _ 6 [.ref (w.2.2 13), P_z k, P_un] [.ref (w.2.2 13), P_z k] _ _ from ?_)
  refine P_aw_getR P_i59_6 (hw.2.1 13 (by decide)) (hw.s rfl) rfl rfl (show P_aw _ _ _ 9 [.ref (w.2.2 13), P_z k, P_un] [.ref (w.2.2 14), P_z k] _ _ from ?_)
  refine P_aw_clen P_i59_9 (hw.2.1 14 (by decide)) (hw.s rfl) rfl (show P_aw _ _ _ 10 [.ref (w.2.2 13), P_z k, P_un] [P_z 12, P_z k] _ _ from ?_)
  refine P_aw_ict P_i59_10 ⟨by omega, by omega⟩ ⟨by decide, by decide⟩ (P_ci_ltt (by omega)) (show P_aw _ _ _ 18 [.ref (w.2.2 13), P_z k, P_un] [] _ _ from ?_)
  refine P_aw_op (L' := [.ref (w.2.2 13), P_z k, P_un]) (st' := [.ref (w.2.2 13)]) P_i59_18 rfl (show P_aw _ _ _ 19 [.ref (w.2.2 13), P_z k, P_un] [.ref (w.2.2 13)] _ _ from ?_)
  refine P_aw_getR P_i59_19 (hw.2.1 13 (by decide)) (hw.s rfl) rfl rfl (show P_aw _ _ _ 22 [.ref (w.2.2 13), P_z k, P_un] [.ref (w.2.2 14)] _ _ from ?_)
  refine P_aw_op (L' := [.ref (w.2.2 13), P_z k, P_un]) (st' := [P_z k, .ref (w.2.2 14)]) P_i59_22 rfl (show P_aw _ _ _ 23 [.ref (w.2.2 13), P_z k, P_un] [P_z k, .ref (w.2.2 14)] _ _ from ?_)
  refine P_aw_cld P_i59_23 (hw.2.1 14 (by decide)) (hw.s rfl) (by decide) (by omega) (P_c12 (by omega)) (by decide) (show P_aw _ _ _ 24 [.ref (w.2.2 13), P_z k, P_un] [.ref (w.2.2 (15 + k.toNat))] _ _ from ?_)
  refine P_aw_op (L' := [.ref (w.2.2 13), P_z k, .ref (w.2.2 (15 + k.toNat))]) (st' := []) P_i59_24 rfl (show P_aw _ _ _ 25 [.ref (w.2.2 13), P_z k, .ref (w.2.2 (15 + k.toNat))] [] _ _ from ?_)
  refine P_aw_op (L' := [.ref (w.2.2 13), P_z k, .ref (w.2.2 (15 + k.toNat))]) (st' := [.ref (w.2.2 (15 + k.toNat))]) P_i59_25 rfl (show P_aw _ _ _ 26 [.ref (w.2.2 13), P_z k, .ref (w.2.2 (15 + k.toNat))] [.ref (w.2.2 (15 + k.toNat))] _ _ from ?_)
  refine P_aw_brt P_i59_26 rfl (show P_aw _ _ _ 36 [.ref (w.2.2 13), P_z k, .ref (w.2.2 (15 + k.toNat))] [] _ _ from ?_)
  refine P_aw_op (L' := [.ref (w.2.2 13), P_z k, .ref (w.2.2 (15 + k.toNat))]) (st' := [.ref (w.2.2 (15 + k.toNat))]) P_i59_36 rfl (show P_aw _ _ _ 37 [.ref (w.2.2 13), P_z k, .ref (w.2.2 (15 + k.toNat))] [.ref (w.2.2 (15 + k.toNat))] _ _ from ?_)
  refine P_aw_end P_i59_37 rfl rfl (fun _ => rfl) rfl ?_
  show P_aw _ _ _ 56 [.ref (w.2.2 0), P_z k, P_z 4] [.ref (w.2.2 (15 + k.toNat)), .ref (w.2.2 13)] _ _
  refine P_aw_op (L' := [.ref (w.2.2 0), P_z k, P_z 4]) (st' := [P_z 4, .ref (w.2.2 (15 + k.toNat)), .ref (w.2.2 13)]) P_i146_56 rfl (show P_aw _ _ _ 57 [.ref (w.2.2 0), P_z k, P_z 4] [P_z 4, .ref (w.2.2 (15 + k.toNat)), .ref (w.2.2 13)] _ _ from ?_)
  refine P_aw_call P_i146_57 rfl rfl (fun _ => rfl) rfl rfl rfl rfl (y2 := 62) (as := [.ref (w.2.2 13), .ref (w.2.2 (15 + k.toNat)), P_z 4]) (r0 := []) (P_inv_v (hw.2.1 13 (by decide)) (hw.s rfl) rfl rfl) (Nat.le_of_ble_eq_true rfl) (by decide) rfl (Nat.le_of_ble_eq_true rfl) (show P_aw _ _ _ 0 [.ref (w.2.2 13), .ref (w.2.2 (15 + k.toNat)), P_z 4] [] _ _ from ?_)
  refine P_aw_op (L' := [.ref (w.2.2 13), .ref (w.2.2 (15 + k.toNat)), P_z 4]) (st' := [P_z 4]) P_i62_0 rfl (show P_aw _ _ _ 1 [.ref (w.2.2 13), .ref (w.2.2 (15 + k.toNat)), P_z 4] [P_z 4] _ _ from ?_)
  refine P_aw_sw P_i62_1 (by decide +kernel) (show P_aw _ _ _ 56 [.ref (w.2.2 13), .ref (w.2.2 (15 + k.toNat)), P_z 4] [] _ _ from ?_)
  refine P_aw_op (L' := [.ref (w.2.2 13), .ref (w.2.2 (15 + k.toNat)), P_z 4]) (st' := [.ref (w.2.2 13)]) P_i62_56 rfl (show P_aw _ _ _ 57 [.ref (w.2.2 13), .ref (w.2.2 (15 + k.toNat)), P_z 4] [.ref (w.2.2 13)] _ _ from ?_)
  refine P_aw_op (L' := [.ref (w.2.2 13), .ref (w.2.2 (15 + k.toNat)), P_z 4]) (st' := [.ref (w.2.2 (15 + k.toNat)), .ref (w.2.2 13)]) P_i62_57 rfl (show P_aw _ _ _ 58 [.ref (w.2.2 13), .ref (w.2.2 (15 + k.toNat)), P_z 4] [.ref (w.2.2 (15 + k.toNat)), .ref (w.2.2 13)] _ _ from ?_)
  have hp2 := A_low_rg (od := od) (l := A_lc cs k 0) (r := A_lc cs k 2)
  refine P_aw_call P_i62_58 rfl rfl (fun _ => rfl) rfl rfl rfl rfl (y2 := 63) (as := [.ref (w.2.2 13), .ref (w.2.2 (15 + k.toNat))]) (r0 := []) (P_inv_v (hw.2.1 13 (by decide)) (hw.s rfl) rfl rfl) (Nat.le_of_ble_eq_true rfl) (by decide) rfl (Nat.le_of_ble_eq_true rfl) (s_low hw hO (hw.c (by omega)) (hC.2.2 k hk.1 hk.2).1.1 (hC.2.2 k hk.1 hk.2).1.2.2.1 (hC.2.2 k hk.1 hk.2).2.1 (hC.2.2 k hk.1 hk.2).2.2.2.1 ?_)
  show P_aw _ _ _ 61 [.ref (w.2.2 13), .ref (w.2.2 (15 + k.toNat)), P_z 4] [P_z (A_low od (A_lc cs k 0) (A_lc cs k 2))] _ _
  refine P_aw_end P_i62_61 rfl rfl (fun _ => rfl) rfl ?_
  show P_aw _ _ _ 60 [.ref (w.2.2 0), P_z k, P_z 4] [P_z (A_low od (A_lc cs k 0) (A_lc cs k 2))] _ _
  refine P_aw_end P_i146_60 rfl rfl (fun _ => rfl) rfl ?_
  exact q

theorem s_cnd5 {w : P_Lw} (hw : P_Cw w) {d : Nat} {Q : P_R → P_A → Prop} {σ : P_A} {ns : Int} {tb : Int → Nat} {rw : Int → Int} {vr : Int → Int → Int} {cl : Int → Int} {V : Int → Int → Int → Int} {cs : List A_cd} {od : Int → Int} {it : Int} {ki ci : Int → Int} {gp oi lm : Int} {nv : Int} (hB : A_B w σ ns tb rw vr cl V cs od it ki ci gp oi lm nv) {k : Int} (hk : 0 ≤ k ∧ k < (cs.length : Int)) (q : Q (.inl (some (P_z (A_part vr (A_lc cs k 0) (A_lc cs k 1) (A_lc cs k 2))))) σ) : P_aw w (d + 8) 146 0 [.ref (w.2.2 0), P_z k, P_z 5] [] σ Q := by
  obtain ⟨hA, hX, hF, hK, hO, hok, htk, hN, hn01, hrd1, hfp⟩ := id hB
  have hns := hA.2.1
  have hit := hF.2.1
  have hsz0 := hK.2.1
  obtain ⟨y, hmem, hy⟩ := A_lc_el hk
  have hoy : A_ok ns y := hok y hmem
  have hoky := A_ok_rg hoy
  have hC := A_CK hK hok
  refine P_aw_op (L' := [.ref (w.2.2 0), P_z k, P_z 5]) (st' := [.ref (w.2.2 0)]) P_i146_0 rfl (show P_aw _ _ _ 1 [.ref (w.2.2 0), P_z k, P_z 5] [.ref (w.2.2 0)] _ _ from ?_)
  refine P_aw_call P_i146_1 rfl rfl (fun _ => rfl) rfl rfl rfl rfl (y2 := 168) (as := [.ref (w.2.2 0)]) (r0 := []) (P_inv_v (hw.2.1 0 (by decide)) (hw.s rfl) rfl rfl) (Nat.le_of_ble_eq_true rfl) (by decide) rfl (Nat.le_of_ble_eq_true rfl) (show P_aw _ _ _ 0 [.ref (w.2.2 0)] [] _ _ from ?_)
  refine P_aw_op (L' := [.ref (w.2.2 0)]) (st' := [.ref (w.2.2 0)]) P_i168_0 rfl (show P_aw _ _ _ 1 [.ref (w.2.2 0)] [.ref (w.2.2 0)] _ _ from ?_)
  refine P_aw_getR P_i168_1 (hw.2.1 0 (by decide)) (hw.s rfl) rfl rfl (show P_aw _ _ _ 4 [.ref (w.2.2 0)] [.ref (w.2.2 29)] _ _ from ?_)
  refine P_aw_call P_i168_4 rfl rfl (fun _ => rfl) rfl rfl rfl rfl (y2 := 92) (as := [.ref (w.2.2 29)]) (r0 := []) (P_inv_v (hw.2.1 29 (by decide)) (hw.s rfl) rfl rfl) (Nat.le_of_ble_eq_true rfl) (by decide) rfl (Nat.le_of_ble_eq_true rfl) (show P_aw _ _ _ 0 [.ref (w.2.2 29)] [] _ _ from ?_)
  refine P_aw_op (L' := [.ref (w.2.2 29)]) (st' := [.ref (w.2.2 29)]) P_i92_0 rfl (show P_aw _ _ _ 1 [.ref (w.2.2 29)] [.ref (w.2.2 29)] _ _ from ?_)
  refine P_aw_getv P_i92_1 (hw.2.1 29 (by decide)) (hw.s rfl) rfl rfl (hrd1) (show P_aw _ _ _ 4 [.ref (w.2.2 29)] [P_z 1] _ _ from ?_)
  refine P_aw_end P_i92_4 rfl rfl (fun _ => rfl) rfl ?_
  show P_aw _ _ _ 7 [.ref (w.2.2 0)] [P_z 1] _ _
  refine P_aw_izt P_i168_7 ⟨by decide, by decide⟩ (P_ci_net (by omega)) (show P_aw _ _ _ 21 [.ref (w.2.2 0)] [] _ _ from ?_)
  refine P_aw_end P_i168_21 rfl rfl (fun _ => rfl) rfl ?_
  show P_aw _ _ _ 4 [.ref (w.2.2 0), P_z k, P_z 5] [] _ _
  refine P_aw_op (L' := [.ref (w.2.2 0), P_z k, P_z 5]) (st' := [.ref (w.2.2 0)]) P_i146_4 rfl (show P_aw _ _ _ 5 [.ref (w.2.2 0), P_z k, P_z 5] [.ref (w.2.2 0)] _ _ from ?_)
  refine P_aw_getR P_i146_5 (hw.2.1 0 (by decide)) (hw.s rfl) rfl rfl (show P_aw _ _ _ 8 [.ref (w.2.2 0), P_z k, P_z 5] [.ref (w.2.2 13)] _ _ from ?_)
  refine P_aw_op (L' := [.ref (w.2.2 0), P_z k, P_z 5]) (st' := [P_z k, .ref (w.2.2 13)]) P_i146_8 rfl (show P_aw _ _ _ 9 [.ref (w.2.2 0), P_z k, P_z 5] [P_z k, .ref (w.2.2 13)] _ _ from ?_)
  refine P_aw_call P_i146_9 rfl rfl (fun _ => rfl) rfl rfl rfl rfl (y2 := 56) (as := [.ref (w.2.2 13), P_z k]) (r0 := []) (P_inv_v (hw.2.1 13 (by decide)) (hw.s rfl) rfl rfl) (Nat.le_of_ble_eq_true rfl) (by decide) rfl (Nat.le_of_ble_eq_true rfl) (show P_aw _ _ _ 0 [.ref (w.2.2 13), P_z k] [] _ _ from ?_)
  refine P_aw_op (L' := [.ref (w.2.2 13), P_z k]) (st' := [P_z k]) P_i56_0 rfl (show P_aw _ _ _ 1 [.ref (w.2.2 13), P_z k] [P_z k] _ _ from ?_)
  refine P_aw_izf P_i56_1 ⟨by omega, by omega⟩ (P_ci_ltf (by omega)) (show P_aw _ _ _ 4 [.ref (w.2.2 13), P_z k] [] _ _ from ?_)
  refine P_aw_op (L' := [.ref (w.2.2 13), P_z k]) (st' := [P_z k]) P_i56_4 rfl (show P_aw _ _ _ 5 [.ref (w.2.2 13), P_z k] [P_z k] _ _ from ?_)
  refine P_aw_op (L' := [.ref (w.2.2 13), P_z k]) (st' := [.ref (w.2.2 13), P_z k]) P_i56_5 rfl (show P_aw _ _ _ 6 [.ref (w.2.2 13), P_z k] [.ref (w.2.2 13), P_z k] _ _ from ?_)
  have hg1 := hK.2.1
  refine P_aw_getv P_i56_6 (hw.2.1 13 (by decide)) (hw.s rfl) rfl rfl (hK.1) (show P_aw _ _ _ 9 [.ref (w.2.2 13), P_z k] [P_z (cs.length : Int), P_z k] _ _ from ?_)
  refine P_aw_icf P_i56_9 ⟨by omega, by omega⟩ ⟨by omega, by omega⟩ (P_ci_gef (by omega)) (show P_aw _ _ _ 12 [.ref (w.2.2 13), P_z k] [] _ _ from ?_)
  refine P_aw_op (L' := [.ref (w.2.2 13), P_z k]) (st' := [P_z 1]) P_i56_12 rfl (show P_aw _ _ _ 13 [.ref (w.2.2 13), P_z k] [P_z 1] _ _ from ?_)
  refine P_aw_goto P_i56_13 (show P_aw _ _ _ 17 [.ref (w.2.2 13), P_z k] [P_z 1] _ _ from ?_)
  refine P_aw_end P_i56_17 rfl rfl (fun _ => rfl) rfl ?_
  show P_aw _ _ _ 12 [.ref (w.2.2 0), P_z k, P_z 5] [P_z 1] _ _
  refine P_aw_izt P_i146_12 ⟨by decide, by decide⟩ (P_ci_net (by omega)) (show P_aw _ _ _ 25 [.ref (w.2.2 0), P_z k, P_z 5] [] _ _ from ?_)
  refine P_aw_op (L' := [.ref (w.2.2 0), P_z k, P_z 5]) (st' := [P_z 5]) P_i146_25 rfl (show P_aw _ _ _ 26 [.ref (w.2.2 0), P_z k, P_z 5] [P_z 5] _ _ from ?_)
  refine P_aw_izf P_i146_26 ⟨by decide, by decide⟩ (P_ci_ltf (by omega)) (show P_aw _ _ _ 29 [.ref (w.2.2 0), P_z k, P_z 5] [] _ _ from ?_)
  refine P_aw_op (L' := [.ref (w.2.2 0), P_z k, P_z 5]) (st' := [P_z 5]) P_i146_29 rfl (show P_aw _ _ _ 30 [.ref (w.2.2 0), P_z k, P_z 5] [P_z 5] _ _ from ?_)
  refine P_aw_op (L' := [.ref (w.2.2 0), P_z k, P_z 5]) (st' := [P_z 5, P_z 5]) P_i146_30 rfl (show P_aw _ _ _ 31 [.ref (w.2.2 0), P_z k, P_z 5] [P_z 5, P_z 5] _ _ from ?_)
  refine P_aw_ict P_i146_31 ⟨by decide, by decide⟩ ⟨by decide, by decide⟩ (P_ci_let (by omega)) (show P_aw _ _ _ 44 [.ref (w.2.2 0), P_z k, P_z 5] [] _ _ from ?_)
  refine P_aw_op (L' := [.ref (w.2.2 0), P_z k, P_z 5]) (st' := [.ref (w.2.2 0)]) P_i146_44 rfl (show P_aw _ _ _ 45 [.ref (w.2.2 0), P_z k, P_z 5] [.ref (w.2.2 0)] _ _ from ?_)
  refine P_aw_getR P_i146_45 (hw.2.1 0 (by decide)) (hw.s rfl) rfl rfl (show P_aw _ _ _ 48 [.ref (w.2.2 0), P_z k, P_z 5] [.ref (w.2.2 13)] _ _ from ?_)
  refine P_aw_op (L' := [.ref (w.2.2 0), P_z k, P_z 5]) (st' := [.ref (w.2.2 0), .ref (w.2.2 13)]) P_i146_48 rfl (show P_aw _ _ _ 49 [.ref (w.2.2 0), P_z k, P_z 5] [.ref (w.2.2 0), .ref (w.2.2 13)] _ _ from ?_)
  refine P_aw_getR P_i146_49 (hw.2.1 0 (by decide)) (hw.s rfl) rfl rfl (show P_aw _ _ _ 52 [.ref (w.2.2 0), P_z k, P_z 5] [.ref (w.2.2 13), .ref (w.2.2 13)] _ _ from ?_)
  refine P_aw_op (L' := [.ref (w.2.2 0), P_z k, P_z 5]) (st' := [P_z k, .ref (w.2.2 13), .ref (w.2.2 13)]) P_i146_52 rfl (show P_aw _ _ _ 53 [.ref (w.2.2 0), P_z k, P_z 5] [P_z k, .ref (w.2.2 13), .ref (w.2.2 13)] _ _ from ?_)
  refine P_aw_call P_i146_53 rfl rfl (fun _ => rfl) rfl rfl rfl rfl (y2 := 59) (as := [.ref (w.2.2 13), P_z k]) (r0 := [.ref (w.2.2 13)]) (P_inv_v (hw.2.1 13 (by decide)) (hw.s rfl) rfl rfl) (Nat.le_of_ble_eq_true rfl) (by decide) rfl (Nat.le_of_ble_eq_true rfl) (show P_aw _ _ _ 0 [.ref (w.2.2 13), P_z k, P_un] [] _ _ from ?_)
  refine P_aw_op (L' := [.ref (w.2.2 13), P_z k, P_un]) (st' := [P_z k]) P_i59_0 rfl (show P_aw _ _ _ 1 [.ref (w.2.2 13), P_z k, P_un] [P_z k] _ _ from ?_)
  refine P_aw_izf P_i59_1 ⟨by omega, by omega⟩ (P_ci_ltf (by omega)) (show P_aw _ _ _ 4 [.ref (w.2.2 13), P_z k, P_un] [] _ _ from ?_)
  refine P_aw_op (L' := [.ref (w.2.2 13), P_z k, P_un]) (st' := [P_z k]) P_i59_4 rfl (show P_aw _ _ _ 5 [.ref (w.2.2 13), P_z k, P_un] [P_z k] _ _ from ?_)
  refine P_aw_op (L' := [.ref (w.2.2 13), P_z k, P_un]) (st' := [.ref (w.2.2 13), P_z k]) P_i59_5 rfl (show P_aw _ _ _ 6 [.ref (w.2.2 13), P_z k, P_un] [.ref (w.2.2 13), P_z k] _ _ from ?_)
  refine P_aw_getR P_i59_6 (hw.2.1 13 (by decide)) (hw.s rfl) rfl rfl (show P_aw _ _ _ 9 [.ref (w.2.2 13), P_z k, P_un] [.ref (w.2.2 14), P_z k] _ _ from ?_)
  refine P_aw_clen P_i59_9 (hw.2.1 14 (by decide)) (hw.s rfl) rfl (show P_aw _ _ _ 10 [.ref (w.2.2 13), P_z k, P_un] [P_z 12, P_z k] _ _ from ?_)
  refine P_aw_ict P_i59_10 ⟨by omega, by omega⟩ ⟨by decide, by decide⟩ (P_ci_ltt (by omega)) (show P_aw _ _ _ 18 [.ref (w.2.2 13), P_z k, P_un] [] _ _ from ?_)
  refine P_aw_op (L' := [.ref (w.2.2 13), P_z k, P_un]) (st' := [.ref (w.2.2 13)]) P_i59_18 rfl (show P_aw _ _ _ 19 [.ref (w.2.2 13), P_z k, P_un] [.ref (w.2.2 13)] _ _ from ?_)
  refine P_aw_getR P_i59_19 (hw.2.1 13 (by decide)) (hw.s rfl) rfl rfl (show P_aw _ _ _ 22 [.ref (w.2.2 13), P_z k, P_un] [.ref (w.2.2 14)] _ _ from ?_)
  refine P_aw_op (L' := [.ref (w.2.2 13), P_z k, P_un]) (st' := [P_z k, .ref (w.2.2 14)]) P_i59_22 rfl (show P_aw _ _ _ 23 [.ref (w.2.2 13), P_z k, P_un] [P_z k, .ref (w.2.2 14)] _ _ from ?_)
  refine P_aw_cld P_i59_23 (hw.2.1 14 (by decide)) (hw.s rfl) (by decide) (by omega) (P_c12 (by omega)) (by decide) (show P_aw _ _ _ 24 [.ref (w.2.2 13), P_z k, P_un] [.ref (w.2.2 (15 + k.toNat))] _ _ from ?_)
  refine P_aw_op (L' := [.ref (w.2.2 13), P_z k, .ref (w.2.2 (15 + k.toNat))]) (st' := []) P_i59_24 rfl (show P_aw _ _ _ 25 [.ref (w.2.2 13), P_z k, .ref (w.2.2 (15 + k.toNat))] [] _ _ from ?_)
  refine P_aw_op (L' := [.ref (w.2.2 13), P_z k, .ref (w.2.2 (15 + k.toNat))]) (st' := [.ref (w.2.2 (15 + k.toNat))]) P_i59_25 rfl (show P_aw _ _ _ 26 [.ref (w.2.2 13), P_z k, .ref (w.2.2 (15 + k.toNat))] [.ref (w.2.2 (15 + k.toNat))] _ _ from ?_)
  refine P_aw_brt P_i59_26 rfl (show P_aw _ _ _ 36 [.ref (w.2.2 13), P_z k, .ref (w.2.2 (15 + k.toNat))] [] _ _ from ?_)
  refine P_aw_op (L' := [.ref (w.2.2 13), P_z k, .ref (w.2.2 (15 + k.toNat))]) (st' := [.ref (w.2.2 (15 + k.toNat))]) P_i59_36 rfl (show P_aw _ _ _ 37 [.ref (w.2.2 13), P_z k, .ref (w.2.2 (15 + k.toNat))] [.ref (w.2.2 (15 + k.toNat))] _ _ from ?_)
  refine P_aw_end P_i59_37 rfl rfl (fun _ => rfl) rfl ?_
  show P_aw _ _ _ 56 [.ref (w.2.2 0), P_z k, P_z 5] [.ref (w.2.2 (15 + k.toNat)), .ref (w.2.2 13)] _ _
  refine P_aw_op (L' := [.ref (w.2.2 0), P_z k, P_z 5]) (st' := [P_z 5, .ref (w.2.2 (15 + k.toNat)), .ref (w.2.2 13)]) P_i146_56 rfl (show P_aw _ _ _ 57 [.ref (w.2.2 0), P_z k, P_z 5] [P_z 5, .ref (w.2.2 (15 + k.toNat)), .ref (w.2.2 13)] _ _ from ?_)
  refine P_aw_call P_i146_57 rfl rfl (fun _ => rfl) rfl rfl rfl rfl (y2 := 62) (as := [.ref (w.2.2 13), .ref (w.2.2 (15 + k.toNat)), P_z 5]) (r0 := []) (P_inv_v (hw.2.1 13 (by decide)) (hw.s rfl) rfl rfl) (Nat.le_of_ble_eq_true rfl) (by decide) rfl (Nat.le_of_ble_eq_true rfl) (show P_aw _ _ _ 0 [.ref (w.2.2 13), .ref (w.2.2 (15 + k.toNat)), P_z 5] [] _ _ from ?_)
  refine P_aw_op (L' := [.ref (w.2.2 13), .ref (w.2.2 (15 + k.toNat)), P_z 5]) (st' := [P_z 5]) P_i62_0 rfl (show P_aw _ _ _ 1 [.ref (w.2.2 13), .ref (w.2.2 (15 + k.toNat)), P_z 5] [P_z 5] _ _ from ?_)
  refine P_aw_sw P_i62_1 (by decide +kernel) (show P_aw _ _ _ 62 [.ref (w.2.2 13), .ref (w.2.2 (15 + k.toNat)), P_z 5] [] _ _ from ?_)
  refine P_aw_op (L' := [.ref (w.2.2 13), .ref (w.2.2 (15 + k.toNat)), P_z 5]) (st' := [.ref (w.2.2 13)]) P_i62_62 rfl (show P_aw _ _ _ 63 [.ref (w.2.2 13), .ref (w.2.2 (15 + k.toNat)), P_z 5] [.ref (w.2.2 13)] _ _ from ?_)
  refine P_aw_op (L' := [.ref (w.2.2 13), .ref (w.2.2 (15 + k.toNat)), P_z 5]) (st' := [.ref (w.2.2 (15 + k.toNat)), .ref (w.2.2 13)]) P_i62_63 rfl (show P_aw _ _ _ 64 [.ref (w.2.2 13), .ref (w.2.2 (15 + k.toNat)), P_z 5] [.ref (w.2.2 (15 + k.toNat)), .ref (w.2.2 13)] _ _ from ?_)
  refine P_aw_call P_i62_64 rfl rfl (fun _ => rfl) rfl rfl rfl rfl (y2 := 65) (as := [.ref (w.2.2 13), .ref (w.2.2 (15 + k.toNat))]) (r0 := []) (P_inv_v (hw.2.1 13 (by decide)) (hw.s rfl) rfl rfl) (Nat.le_of_ble_eq_true rfl) (by decide) rfl (Nat.le_of_ble_eq_true rfl) (s_part hw hA (hw.c (by omega)) (hC.2.2 k hk.1 hk.2).1.1 (hC.2.2 k hk.1 hk.2).1.2.2.1 (hC.2.2 k hk.1 hk.2).2.1 (hC.2.2 k hk.1 hk.2).2.2.2.1 (hC.2.2 k hk.1 hk.2).1.2.1 (hC.2.2 k hk.1 hk.2).2.2.1 ?_)
  show P_aw _ _ _ 67 [.ref (w.2.2 13), .ref (w.2.2 (15 + k.toNat)), P_z 5] [P_z (A_part vr (A_lc cs k 0) (A_lc cs k 1) (A_lc cs k 2))] _ _
  refine P_aw_end P_i62_67 rfl rfl (fun _ => rfl) rfl ?_
  show P_aw _ _ _ 60 [.ref (w.2.2 0), P_z k, P_z 5] [P_z (A_part vr (A_lc cs k 0) (A_lc cs k 1) (A_lc cs k 2))] _ _
  refine P_aw_end P_i146_60 rfl rfl (fun _ => rfl) rfl ?_
  exact q

theorem s_gss {w : P_Lw} (hw : P_Cw w) {d : Nat} {Q : P_R → P_A → Prop} {σ : P_A} {ns : Int} {tb : Int → Nat} {rw : Int → Int} {vr : Int → Int → Int} {cl : Int → Int} {V : Int → Int → Int → Int} {cs : List A_cd} {od : Int → Int} {it : Int} {ki ci : Int → Int} {gp oi lm : Int} {nv : Int} (hB : A_B w σ ns tb rw vr cl V cs od it ki ci gp oi lm nv) {k : Int} (hk : 0 ≤ k ∧ k < ns) (q : Q (.inl (some (P_zl (A_gs rw od (A_th vr (cs.length : Int) (fun i => A_lc cs i 0) (fun i => A_lc cs i 1) (fun i => A_lc cs i 2) (fun i => A_lc cs i 3)) (k + 1).toNat 0 1)))) σ) : P_aw w (d + 9) 151 0 [.ref (w.2.2 0), P_z k] [] σ Q := by
  obtain ⟨hA, hX, hF, hK, hO, hok, htk, hN, hn01, hrd1, hfp⟩ := id hB
  have hns := hA.2.1
  have hit := hF.2.1
  have hsz0 := hK.2.1
  have hC := A_CK hK hok
  refine P_aw_op (L' := [.ref (w.2.2 0), P_z k]) (st' := [.ref (w.2.2 0)]) P_i151_0 rfl (show P_aw _ _ _ 1 [.ref (w.2.2 0), P_z k] [.ref (w.2.2 0)] _ _ from ?_)
  refine P_aw_call P_i151_1 rfl rfl (fun _ => rfl) rfl rfl rfl rfl (y2 := 168) (as := [.ref (w.2.2 0)]) (r0 := []) (P_inv_v (hw.2.1 0 (by decide)) (hw.s rfl) rfl rfl) (Nat.le_of_ble_eq_true rfl) (by decide) rfl (Nat.le_of_ble_eq_true rfl) (show P_aw _ _ _ 0 [.ref (w.2.2 0)] [] _ _ from ?_)
  refine P_aw_op (L' := [.ref (w.2.2 0)]) (st' := [.ref (w.2.2 0)]) P_i168_0 rfl (show P_aw _ _ _ 1 [.ref (w.2.2 0)] [.ref (w.2.2 0)] _ _ from ?_)
  refine P_aw_getR P_i168_1 (hw.2.1 0 (by decide)) (hw.s rfl) rfl rfl (show P_aw _ _ _ 4 [.ref (w.2.2 0)] [.ref (w.2.2 29)] _ _ from ?_)
  refine P_aw_call P_i168_4 rfl rfl (fun _ => rfl) rfl rfl rfl rfl (y2 := 92) (as := [.ref (w.2.2 29)]) (r0 := []) (P_inv_v (hw.2.1 29 (by decide)) (hw.s rfl) rfl rfl) (Nat.le_of_ble_eq_true rfl) (by decide) rfl (Nat.le_of_ble_eq_true rfl) (show P_aw _ _ _ 0 [.ref (w.2.2 29)] [] _ _ from ?_)
  refine P_aw_op (L' := [.ref (w.2.2 29)]) (st' := [.ref (w.2.2 29)]) P_i92_0 rfl (show P_aw _ _ _ 1 [.ref (w.2.2 29)] [.ref (w.2.2 29)] _ _ from ?_)
  refine P_aw_getv P_i92_1 (hw.2.1 29 (by decide)) (hw.s rfl) rfl rfl (hrd1) (show P_aw _ _ _ 4 [.ref (w.2.2 29)] [P_z 1] _ _ from ?_)
  refine P_aw_end P_i92_4 rfl rfl (fun _ => rfl) rfl ?_
  show P_aw _ _ _ 7 [.ref (w.2.2 0)] [P_z 1] _ _
  refine P_aw_izt P_i168_7 ⟨by decide, by decide⟩ (P_ci_net (by omega)) (show P_aw _ _ _ 21 [.ref (w.2.2 0)] [] _ _ from ?_)
  refine P_aw_end P_i168_21 rfl rfl (fun _ => rfl) rfl ?_
  show P_aw _ _ _ 4 [.ref (w.2.2 0), P_z k] [] _ _
  refine P_aw_op (L' := [.ref (w.2.2 0), P_z k]) (st' := [.ref (w.2.2 0)]) P_i151_4 rfl (show P_aw _ _ _ 5 [.ref (w.2.2 0), P_z k] [.ref (w.2.2 0)] _ _ from ?_)
  refine P_aw_getR P_i151_5 (hw.2.1 0 (by decide)) (hw.s rfl) rfl rfl (show P_aw _ _ _ 8 [.ref (w.2.2 0), P_z k] [.ref (w.2.2 6)] _ _ from ?_)
  refine P_aw_op (L' := [.ref (w.2.2 0), P_z k]) (st' := [P_z k, .ref (w.2.2 6)]) P_i151_8 rfl (show P_aw _ _ _ 9 [.ref (w.2.2 0), P_z k] [P_z k, .ref (w.2.2 6)] _ _ from ?_)
  refine P_aw_call P_i151_9 rfl rfl (fun _ => rfl) rfl rfl rfl rfl (y2 := 37) (as := [.ref (w.2.2 6), P_z k]) (r0 := []) (P_inv_v (hw.2.1 6 (by decide)) (hw.s rfl) rfl rfl) (Nat.le_of_ble_eq_true rfl) (by decide) rfl (Nat.le_of_ble_eq_true rfl) (show P_aw _ _ _ 0 [.ref (w.2.2 6), P_z k] [] _ _ from ?_)
  refine P_aw_op (L' := [.ref (w.2.2 6), P_z k]) (st' := [P_z k]) P_i37_0 rfl (show P_aw _ _ _ 1 [.ref (w.2.2 6), P_z k] [P_z k] _ _ from ?_)
  refine P_aw_izf P_i37_1 ⟨by omega, by omega⟩ (P_ci_ltf (by omega)) (show P_aw _ _ _ 4 [.ref (w.2.2 6), P_z k] [] _ _ from ?_)
  refine P_aw_op (L' := [.ref (w.2.2 6), P_z k]) (st' := [P_z k]) P_i37_4 rfl (show P_aw _ _ _ 5 [.ref (w.2.2 6), P_z k] [P_z k] _ _ from ?_)
  refine P_aw_op (L' := [.ref (w.2.2 6), P_z k]) (st' := [.ref (w.2.2 6), P_z k]) P_i37_5 rfl (show P_aw _ _ _ 6 [.ref (w.2.2 6), P_z k] [.ref (w.2.2 6), P_z k] _ _ from ?_)
  refine P_aw_getv P_i37_6 (hw.2.1 6 (by decide)) (hw.s rfl) rfl rfl (hA.1) (show P_aw _ _ _ 9 [.ref (w.2.2 6), P_z k] [P_z ns, P_z k] _ _ from ?_)
  refine P_aw_icf P_i37_9 ⟨by omega, by omega⟩ ⟨by omega, by omega⟩ (P_ci_gef (by omega)) (show P_aw _ _ _ 12 [.ref (w.2.2 6), P_z k] [] _ _ from ?_)
  refine P_aw_op (L' := [.ref (w.2.2 6), P_z k]) (st' := [P_z 1]) P_i37_12 rfl (show P_aw _ _ _ 13 [.ref (w.2.2 6), P_z k] [P_z 1] _ _ from ?_)
  refine P_aw_goto P_i37_13 (show P_aw _ _ _ 17 [.ref (w.2.2 6), P_z k] [P_z 1] _ _ from ?_)
  refine P_aw_end P_i37_17 rfl rfl (fun _ => rfl) rfl ?_
  show P_aw _ _ _ 12 [.ref (w.2.2 0), P_z k] [P_z 1] _ _
  refine P_aw_izt P_i151_12 ⟨by decide, by decide⟩ (P_ci_net (by omega)) (show P_aw _ _ _ 25 [.ref (w.2.2 0), P_z k] [] _ _ from ?_)
  refine P_aw_op (L' := [.ref (w.2.2 0), P_z k]) (st' := [.ref (w.2.2 0)]) P_i151_25 rfl (show P_aw _ _ _ 26 [.ref (w.2.2 0), P_z k] [.ref (w.2.2 0)] _ _ from ?_)
  refine P_aw_getR P_i151_26 (hw.2.1 0 (by decide)) (hw.s rfl) rfl rfl (show P_aw _ _ _ 29 [.ref (w.2.2 0), P_z k] [.ref (w.2.2 13)] _ _ from ?_)
  refine P_aw_op (L' := [.ref (w.2.2 0), P_z k]) (st' := [P_z k, .ref (w.2.2 13)]) P_i151_29 rfl (show P_aw _ _ _ 30 [.ref (w.2.2 0), P_z k] [P_z k, .ref (w.2.2 13)] _ _ from ?_)
  refine P_aw_call P_i151_30 rfl rfl (fun _ => rfl) rfl rfl rfl rfl (y2 := 66) (as := [.ref (w.2.2 13), P_z k]) (r0 := []) (P_inv_v (hw.2.1 13 (by decide)) (hw.s rfl) rfl rfl) (Nat.le_of_ble_eq_true rfl) (by decide) rfl (Nat.le_of_ble_eq_true rfl) (s_guess hw hA hO hC hk ?_)
  show P_aw _ _ _ 33 [.ref (w.2.2 0), P_z k] [P_zl (A_gs rw od (A_th vr (cs.length : Int) (fun i => A_lc cs i 0) (fun i => A_lc cs i 1) (fun i => A_lc cs i 2) (fun i => A_lc cs i 3)) (k + 1).toNat 0 1)] _ _
  refine P_aw_end P_i151_33 rfl rfl (fun _ => rfl) rfl ?_
  exact q

theorem s_cst {w : P_Lw} (hw : P_Cw w) {d : Nat} {Q : P_R → P_A → Prop} {σ : P_A} {ns : Int} {tb : Int → Nat} {rw : Int → Int} {vr : Int → Int → Int} {cl : Int → Int} {V : Int → Int → Int → Int} {cs : List A_cd} {od : Int → Int} {it : Int} {ki ci : Int → Int} {gp oi lm : Int} {nv : Int} (hB : A_B w σ ns tb rw vr cl V cs od it ki ci gp oi lm nv)  (q : Q (.inl (some (P_zl (if nv = 1 then 0 else A_ct rw od (A_th vr (cs.length : Int) (fun i => A_lc cs i 0) (fun i => A_lc cs i 1) (fun i => A_lc cs i 2) (fun i => A_lc cs i 3)) ns.toNat 0 1 0)))) σ) : P_aw w (d + 9) 152 0 [.ref (w.2.2 0)] [] σ Q := by
  obtain ⟨hA, hX, hF, hK, hO, hok, htk, hN, hn01, hrd1, hfp⟩ := id hB
  have hns := hA.2.1
  have hit := hF.2.1
  have hsz0 := hK.2.1
  have hC := A_CK hK hok
  refine P_aw_op (L' := [.ref (w.2.2 0)]) (st' := [.ref (w.2.2 0)]) P_i152_0 rfl (show P_aw _ _ _ 1 [.ref (w.2.2 0)] [.ref (w.2.2 0)] _ _ from ?_)
  refine P_aw_call P_i152_1 rfl rfl (fun _ => rfl) rfl rfl rfl rfl (y2 := 168) (as := [.ref (w.2.2 0)]) (r0 := []) (P_inv_v (hw.2.1 0 (by decide)) (hw.s rfl) rfl rfl) (Nat.le_of_ble_eq_true rfl) (by decide) rfl (Nat.le_of_ble_eq_true rfl) (show P_aw _ _ _ 0 [.ref (w.2.2 0)] [] _ _ from ?_)
  refine P_aw_op (L' := [.ref (w.2.2 0)]) (st' := [.ref (w.2.2 0)]) P_i168_0 rfl (show P_aw _ _ _ 1 [.ref (w.2.2 0)] [.ref (w.2.2 0)] _ _ from ?_)
  refine P_aw_getR P_i168_1 (hw.2.1 0 (by decide)) (hw.s rfl) rfl rfl (show P_aw _ _ _ 4 [.ref (w.2.2 0)] [.ref (w.2.2 29)] _ _ from ?_)
  refine P_aw_call P_i168_4 rfl rfl (fun _ => rfl) rfl rfl rfl rfl (y2 := 92) (as := [.ref (w.2.2 29)]) (r0 := []) (P_inv_v (hw.2.1 29 (by decide)) (hw.s rfl) rfl rfl) (Nat.le_of_ble_eq_true rfl) (by decide) rfl (Nat.le_of_ble_eq_true rfl) (show P_aw _ _ _ 0 [.ref (w.2.2 29)] [] _ _ from ?_)
  refine P_aw_op (L' := [.ref (w.2.2 29)]) (st' := [.ref (w.2.2 29)]) P_i92_0 rfl (show P_aw _ _ _ 1 [.ref (w.2.2 29)] [.ref (w.2.2 29)] _ _ from ?_)
  refine P_aw_getv P_i92_1 (hw.2.1 29 (by decide)) (hw.s rfl) rfl rfl (hrd1) (show P_aw _ _ _ 4 [.ref (w.2.2 29)] [P_z 1] _ _ from ?_)
  refine P_aw_end P_i92_4 rfl rfl (fun _ => rfl) rfl ?_
  show P_aw _ _ _ 7 [.ref (w.2.2 0)] [P_z 1] _ _
  refine P_aw_izt P_i168_7 ⟨by decide, by decide⟩ (P_ci_net (by omega)) (show P_aw _ _ _ 21 [.ref (w.2.2 0)] [] _ _ from ?_)
  refine P_aw_end P_i168_21 rfl rfl (fun _ => rfl) rfl ?_
  show P_aw _ _ _ 4 [.ref (w.2.2 0)] [] _ _
  refine P_aw_op (L' := [.ref (w.2.2 0)]) (st' := [.ref (w.2.2 0)]) P_i152_4 rfl (show P_aw _ _ _ 5 [.ref (w.2.2 0)] [.ref (w.2.2 0)] _ _ from ?_)
  refine P_aw_getR P_i152_5 (hw.2.1 0 (by decide)) (hw.s rfl) rfl rfl (show P_aw _ _ _ 8 [.ref (w.2.2 0)] [.ref (w.2.2 13)] _ _ from ?_)
  refine P_aw_call P_i152_8 rfl rfl (fun _ => rfl) rfl rfl rfl rfl (y2 := 67) (as := [.ref (w.2.2 13)]) (r0 := []) (P_inv_v (hw.2.1 13 (by decide)) (hw.s rfl) rfl rfl) (Nat.le_of_ble_eq_true rfl) (by decide) rfl (Nat.le_of_ble_eq_true rfl) (s_cost hw hA hO hC hN hn01 ?_)
  show P_aw _ _ _ 11 [.ref (w.2.2 0)] [P_zl (if nv = 1 then 0 else A_ct rw od (A_th vr (cs.length : Int) (fun i => A_lc cs i 0) (fun i => A_lc cs i 1) (fun i => A_lc cs i 2) (fun i => A_lc cs i 3)) ns.toNat 0 1 0)] _ _
  refine P_aw_end P_i152_11 rfl rfl (fun _ => rfl) rfl ?_
  exact q

theorem s_rsl {w : P_Lw} (hw : P_Cw w) {d : Nat} {Q : P_R → P_A → Prop} {σ : P_A} {ns : Int} {tb : Int → Nat} {rw : Int → Int} {vr : Int → Int → Int} {cl : Int → Int} {V : Int → Int → Int → Int} {cs : List A_cd} {od : Int → Int} {it : Int} {ki ci : Int → Int} {gp oi lm : Int} {nv : Int} (hB : A_B w σ ns tb rw vr cl V cs od it ki ci gp oi lm nv) {rd ck mt : Int} {sz : Nat} (hka : A_ka σ V rw it ki ci gp oi lm rd ck mt sz) (q : Q (.inl (some (P_z (min ((sz : Nat) : Int) lm)))) σ) : P_aw w (d + 8) 158 0 [.ref (w.2.2 0)] [] σ Q := by
  obtain ⟨hA, hX, hF, hK, hO, hok, htk, hN, hn01, hrd1, hfp⟩ := id hB
  have hns := hA.2.1
  have hit := hF.2.1
  have hsz0 := hK.2.1
  obtain ⟨hk16, hk5, hk6, hk15, hkR, hkG, hkS, hkP⟩ := id hka
  have hlm := hF.2.2.2.2.2.2.2.2
  have hsz27 := hkR.2.1
  refine P_aw_op (L' := [.ref (w.2.2 0)]) (st' := [.ref (w.2.2 0)]) P_i158_0 rfl (show P_aw _ _ _ 1 [.ref (w.2.2 0)] [.ref (w.2.2 0)] _ _ from ?_)
  refine P_aw_call P_i158_1 rfl rfl (fun _ => rfl) rfl rfl rfl rfl (y2 := 168) (as := [.ref (w.2.2 0)]) (r0 := []) (P_inv_v (hw.2.1 0 (by decide)) (hw.s rfl) rfl rfl) (Nat.le_of_ble_eq_true rfl) (by decide) rfl (Nat.le_of_ble_eq_true rfl) (show P_aw _ _ _ 0 [.ref (w.2.2 0)] [] _ _ from ?_)
  refine P_aw_op (L' := [.ref (w.2.2 0)]) (st' := [.ref (w.2.2 0)]) P_i168_0 rfl (show P_aw _ _ _ 1 [.ref (w.2.2 0)] [.ref (w.2.2 0)] _ _ from ?_)
  refine P_aw_getR P_i168_1 (hw.2.1 0 (by decide)) (hw.s rfl) rfl rfl (show P_aw _ _ _ 4 [.ref (w.2.2 0)] [.ref (w.2.2 29)] _ _ from ?_)
  refine P_aw_call P_i168_4 rfl rfl (fun _ => rfl) rfl rfl rfl rfl (y2 := 92) (as := [.ref (w.2.2 29)]) (r0 := []) (P_inv_v (hw.2.1 29 (by decide)) (hw.s rfl) rfl rfl) (Nat.le_of_ble_eq_true rfl) (by decide) rfl (Nat.le_of_ble_eq_true rfl) (show P_aw _ _ _ 0 [.ref (w.2.2 29)] [] _ _ from ?_)
  refine P_aw_op (L' := [.ref (w.2.2 29)]) (st' := [.ref (w.2.2 29)]) P_i92_0 rfl (show P_aw _ _ _ 1 [.ref (w.2.2 29)] [.ref (w.2.2 29)] _ _ from ?_)
  refine P_aw_getv P_i92_1 (hw.2.1 29 (by decide)) (hw.s rfl) rfl rfl (hrd1) (show P_aw _ _ _ 4 [.ref (w.2.2 29)] [P_z 1] _ _ from ?_)
  refine P_aw_end P_i92_4 rfl rfl (fun _ => rfl) rfl ?_
  show P_aw _ _ _ 7 [.ref (w.2.2 0)] [P_z 1] _ _
  refine P_aw_izt P_i168_7 ⟨by decide, by decide⟩ (P_ci_net (by omega)) (show P_aw _ _ _ 21 [.ref (w.2.2 0)] [] _ _ from ?_)
  refine P_aw_end P_i168_21 rfl rfl (fun _ => rfl) rfl ?_
  show P_aw _ _ _ 4 [.ref (w.2.2 0)] [] _ _
  refine P_aw_op (L' := [.ref (w.2.2 0)]) (st' := [.ref (w.2.2 0)]) P_i158_4 rfl (show P_aw _ _ _ 5 [.ref (w.2.2 0)] [.ref (w.2.2 0)] _ _ from ?_)
  refine P_aw_getR P_i158_5 (hw.2.1 0 (by decide)) (hw.s rfl) rfl rfl (show P_aw _ _ _ 8 [.ref (w.2.2 0)] [.ref (w.2.2 31)] _ _ from ?_)
  refine P_aw_call P_i158_8 rfl rfl (fun _ => rfl) rfl rfl rfl rfl (y2 := 3) (as := [.ref (w.2.2 31)]) (r0 := []) (P_inv_v (hw.2.1 31 (by decide)) (hw.s rfl) rfl rfl) (Nat.le_of_ble_eq_true rfl) (by decide) rfl (Nat.le_of_ble_eq_true rfl) (show P_aw _ _ _ 0 [.ref (w.2.2 31)] [] _ _ from ?_)
  refine P_aw_op (L' := [.ref (w.2.2 31)]) (st' := [.ref (w.2.2 31)]) P_i3_0 rfl (show P_aw _ _ _ 1 [.ref (w.2.2 31)] [.ref (w.2.2 31)] _ _ from ?_)
  refine P_aw_getv P_i3_1 (hw.2.1 31 (by decide)) (hw.s rfl) rfl rfl (hk16) (show P_aw _ _ _ 4 [.ref (w.2.2 31)] [P_z 1] _ _ from ?_)
  refine P_aw_izf P_i3_4 ⟨by decide, by decide⟩ (P_ci_eqf (by omega)) (show P_aw _ _ _ 7 [.ref (w.2.2 31)] [] _ _ from ?_)
  refine P_aw_end P_i3_7 rfl rfl (fun _ => rfl) rfl ?_
  show P_aw _ _ _ 11 [.ref (w.2.2 0)] [] _ _
  refine P_aw_op (L' := [.ref (w.2.2 0)]) (st' := [.ref (w.2.2 0)]) P_i158_11 rfl (show P_aw _ _ _ 12 [.ref (w.2.2 0)] [.ref (w.2.2 0)] _ _ from ?_)
  refine P_aw_getR P_i158_12 (hw.2.1 0 (by decide)) (hw.s rfl) rfl rfl (show P_aw _ _ _ 15 [.ref (w.2.2 0)] [.ref (w.2.2 31)] _ _ from ?_)
  refine P_aw_call P_i158_15 rfl rfl (fun _ => rfl) rfl rfl rfl rfl (y2 := 5) (as := [.ref (w.2.2 31)]) (r0 := []) (P_inv_v (hw.2.1 31 (by decide)) (hw.s rfl) rfl rfl) (Nat.le_of_ble_eq_true rfl) (by decide) rfl (Nat.le_of_ble_eq_true rfl) (show P_aw _ _ _ 0 [.ref (w.2.2 31)] [] _ _ from ?_)
  refine P_aw_op (L' := [.ref (w.2.2 31)]) (st' := [.ref (w.2.2 31)]) P_i5_0 rfl (show P_aw _ _ _ 1 [.ref (w.2.2 31)] [.ref (w.2.2 31)] _ _ from ?_)
  refine P_aw_getv P_i5_1 (hw.2.1 31 (by decide)) (hw.s rfl) rfl rfl (hk15) (show P_aw _ _ _ 4 [.ref (w.2.2 31)] [P_z (min ((sz : Nat) : Int) lm)] _ _ from ?_)
  refine P_aw_end P_i5_4 rfl rfl (fun _ => rfl) rfl ?_
  show P_aw _ _ _ 18 [.ref (w.2.2 0)] [P_z (min ((sz : Nat) : Int) lm)] _ _
  refine P_aw_end P_i158_18 rfl rfl (fun _ => rfl) rfl ?_
  exact q

theorem s_wd0 {w : P_Lw} (hw : P_Cw w) {d : Nat} {Q : P_R → P_A → Prop} {σ : P_A} {ns : Int} {tb : Int → Nat} {rw : Int → Int} {vr : Int → Int → Int} {cl : Int → Int} {V : Int → Int → Int → Int} {cs : List A_cd} {od : Int → Int} {it : Int} {ki ci : Int → Int} {gp oi lm : Int} {nv : Int} (hB : A_B w σ ns tb rw vr cl V cs od it ki ci gp oi lm nv) {rd ck mt : Int} {sz : Nat} (hka : A_ka σ V rw it ki ci gp oi lm rd ck mt sz) (q : Q (.inl (some (P_z rd))) σ) : P_aw w (d + 8) 160 0 [.ref (w.2.2 0), P_z 0] [] σ Q := by
  obtain ⟨hA, hX, hF, hK, hO, hok, htk, hN, hn01, hrd1, hfp⟩ := id hB
  have hns := hA.2.1
  have hit := hF.2.1
  have hsz0 := hK.2.1
  obtain ⟨hk16, hk5, hk6, hk15, hkR, hkG, hkS, hkP⟩ := id hka
  have hlm := hF.2.2.2.2.2.2.2.2
  have hsz27 := hkR.2.1
  refine P_aw_op (L' := [.ref (w.2.2 0), P_z 0]) (st' := [.ref (w.2.2 0)]) P_i160_0 rfl (show P_aw _ _ _ 1 [.ref (w.2.2 0), P_z 0] [.ref (w.2.2 0)] _ _ from ?_)
  refine P_aw_call P_i160_1 rfl rfl (fun _ => rfl) rfl rfl rfl rfl (y2 := 168) (as := [.ref (w.2.2 0)]) (r0 := []) (P_inv_v (hw.2.1 0 (by decide)) (hw.s rfl) rfl rfl) (Nat.le_of_ble_eq_true rfl) (by decide) rfl (Nat.le_of_ble_eq_true rfl) (show P_aw _ _ _ 0 [.ref (w.2.2 0)] [] _ _ from ?_)
  refine P_aw_op (L' := [.ref (w.2.2 0)]) (st' := [.ref (w.2.2 0)]) P_i168_0 rfl (show P_aw _ _ _ 1 [.ref (w.2.2 0)] [.ref (w.2.2 0)] _ _ from ?_)
  refine P_aw_getR P_i168_1 (hw.2.1 0 (by decide)) (hw.s rfl) rfl rfl (show P_aw _ _ _ 4 [.ref (w.2.2 0)] [.ref (w.2.2 29)] _ _ from ?_)
  refine P_aw_call P_i168_4 rfl rfl (fun _ => rfl) rfl rfl rfl rfl (y2 := 92) (as := [.ref (w.2.2 29)]) (r0 := []) (P_inv_v (hw.2.1 29 (by decide)) (hw.s rfl) rfl rfl) (Nat.le_of_ble_eq_true rfl) (by decide) rfl (Nat.le_of_ble_eq_true rfl) (show P_aw _ _ _ 0 [.ref (w.2.2 29)] [] _ _ from ?_)
  refine P_aw_op (L' := [.ref (w.2.2 29)]) (st' := [.ref (w.2.2 29)]) P_i92_0 rfl (show P_aw _ _ _ 1 [.ref (w.2.2 29)] [.ref (w.2.2 29)] _ _ from ?_)
  refine P_aw_getv P_i92_1 (hw.2.1 29 (by decide)) (hw.s rfl) rfl rfl (hrd1) (show P_aw _ _ _ 4 [.ref (w.2.2 29)] [P_z 1] _ _ from ?_)
  refine P_aw_end P_i92_4 rfl rfl (fun _ => rfl) rfl ?_
  show P_aw _ _ _ 7 [.ref (w.2.2 0)] [P_z 1] _ _
  refine P_aw_izt P_i168_7 ⟨by decide, by decide⟩ (P_ci_net (by omega)) (show P_aw _ _ _ 21 [.ref (w.2.2 0)] [] _ _ from ?_)
  refine P_aw_end P_i168_21 rfl rfl (fun _ => rfl) rfl ?_
  show P_aw _ _ _ 4 [.ref (w.2.2 0), P_z 0] [] _ _
  refine P_aw_op (L' := [.ref (w.2.2 0), P_z 0]) (st' := [P_z 0]) P_i160_4 rfl (show P_aw _ _ _ 5 [.ref (w.2.2 0), P_z 0] [P_z 0] _ _ from ?_)
  refine P_aw_izf P_i160_5 ⟨by decide, by decide⟩ (P_ci_ltf (by omega)) (show P_aw _ _ _ 8 [.ref (w.2.2 0), P_z 0] [] _ _ from ?_)
  refine P_aw_op (L' := [.ref (w.2.2 0), P_z 0]) (st' := [P_z 0]) P_i160_8 rfl (show P_aw _ _ _ 9 [.ref (w.2.2 0), P_z 0] [P_z 0] _ _ from ?_)
  refine P_aw_op (L' := [.ref (w.2.2 0), P_z 0]) (st' := [P_z 1, P_z 0]) P_i160_9 rfl (show P_aw _ _ _ 10 [.ref (w.2.2 0), P_z 0] [P_z 1, P_z 0] _ _ from ?_)
  refine P_aw_ict P_i160_10 ⟨by decide, by decide⟩ ⟨by decide, by decide⟩ (P_ci_let (by omega)) (show P_aw _ _ _ 23 [.ref (w.2.2 0), P_z 0] [] _ _ from ?_)
  refine P_aw_op (L' := [.ref (w.2.2 0), P_z 0]) (st' := [.ref (w.2.2 0)]) P_i160_23 rfl (show P_aw _ _ _ 24 [.ref (w.2.2 0), P_z 0] [.ref (w.2.2 0)] _ _ from ?_)
  refine P_aw_getR P_i160_24 (hw.2.1 0 (by decide)) (hw.s rfl) rfl rfl (show P_aw _ _ _ 27 [.ref (w.2.2 0), P_z 0] [.ref (w.2.2 31)] _ _ from ?_)
  refine P_aw_call P_i160_27 rfl rfl (fun _ => rfl) rfl rfl rfl rfl (y2 := 3) (as := [.ref (w.2.2 31)]) (r0 := []) (P_inv_v (hw.2.1 31 (by decide)) (hw.s rfl) rfl rfl) (Nat.le_of_ble_eq_true rfl) (by decide) rfl (Nat.le_of_ble_eq_true rfl) (show P_aw _ _ _ 0 [.ref (w.2.2 31)] [] _ _ from ?_)
  refine P_aw_op (L' := [.ref (w.2.2 31)]) (st' := [.ref (w.2.2 31)]) P_i3_0 rfl (show P_aw _ _ _ 1 [.ref (w.2.2 31)] [.ref (w.2.2 31)] _ _ from ?_)
  refine P_aw_getv P_i3_1 (hw.2.1 31 (by decide)) (hw.s rfl) rfl rfl (hk16) (show P_aw _ _ _ 4 [.ref (w.2.2 31)] [P_z 1] _ _ from ?_)
  refine P_aw_izf P_i3_4 ⟨by decide, by decide⟩ (P_ci_eqf (by omega)) (show P_aw _ _ _ 7 [.ref (w.2.2 31)] [] _ _ from ?_)
  refine P_aw_end P_i3_7 rfl rfl (fun _ => rfl) rfl ?_
  show P_aw _ _ _ 30 [.ref (w.2.2 0), P_z 0] [] _ _
  refine P_aw_op (L' := [.ref (w.2.2 0), P_z 0]) (st' := [P_z 0]) P_i160_30 rfl (show P_aw _ _ _ 31 [.ref (w.2.2 0), P_z 0] [P_z 0] _ _ from ?_)
  refine P_aw_izf P_i160_31 ⟨by decide, by decide⟩ (P_ci_nef (by omega)) (show P_aw _ _ _ 34 [.ref (w.2.2 0), P_z 0] [] _ _ from ?_)
  refine P_aw_op (L' := [.ref (w.2.2 0), P_z 0]) (st' := [.ref (w.2.2 0)]) P_i160_34 rfl (show P_aw _ _ _ 35 [.ref (w.2.2 0), P_z 0] [.ref (w.2.2 0)] _ _ from ?_)
  refine P_aw_getR P_i160_35 (hw.2.1 0 (by decide)) (hw.s rfl) rfl rfl (show P_aw _ _ _ 38 [.ref (w.2.2 0), P_z 0] [.ref (w.2.2 31)] _ _ from ?_)
  refine P_aw_call P_i160_38 rfl rfl (fun _ => rfl) rfl rfl rfl rfl (y2 := 129) (as := [.ref (w.2.2 31)]) (r0 := []) (P_inv_v (hw.2.1 31 (by decide)) (hw.s rfl) rfl rfl) (Nat.le_of_ble_eq_true rfl) (by decide) rfl (Nat.le_of_ble_eq_true rfl) (show P_aw _ _ _ 0 [.ref (w.2.2 31)] [] _ _ from ?_)
  refine P_aw_op (L' := [.ref (w.2.2 31)]) (st' := [.ref (w.2.2 31)]) P_i129_0 rfl (show P_aw _ _ _ 1 [.ref (w.2.2 31)] [.ref (w.2.2 31)] _ _ from ?_)
  refine P_aw_getv P_i129_1 (hw.2.1 31 (by decide)) (hw.s rfl) rfl rfl (hk5) (show P_aw _ _ _ 4 [.ref (w.2.2 31)] [P_z rd] _ _ from ?_)
  refine P_aw_end P_i129_4 rfl rfl (fun _ => rfl) rfl ?_
  show P_aw _ _ _ 41 [.ref (w.2.2 0), P_z 0] [P_z rd] _ _
  refine P_aw_goto P_i160_41 (show P_aw _ _ _ 51 [.ref (w.2.2 0), P_z 0] [P_z rd] _ _ from ?_)
  refine P_aw_end P_i160_51 rfl rfl (fun _ => rfl) rfl ?_
  exact q

theorem s_wd1 {w : P_Lw} (hw : P_Cw w) {d : Nat} {Q : P_R → P_A → Prop} {σ : P_A} {ns : Int} {tb : Int → Nat} {rw : Int → Int} {vr : Int → Int → Int} {cl : Int → Int} {V : Int → Int → Int → Int} {cs : List A_cd} {od : Int → Int} {it : Int} {ki ci : Int → Int} {gp oi lm : Int} {nv : Int} (hB : A_B w σ ns tb rw vr cl V cs od it ki ci gp oi lm nv) {rd ck mt : Int} {sz : Nat} (hka : A_ka σ V rw it ki ci gp oi lm rd ck mt sz) (q : Q (.inl (some (P_z ck))) σ) : P_aw w (d + 8) 160 0 [.ref (w.2.2 0), P_z 1] [] σ Q := by
  obtain ⟨hA, hX, hF, hK, hO, hok, htk, hN, hn01, hrd1, hfp⟩ := id hB
  have hns := hA.2.1
  have hit := hF.2.1
  have hsz0 := hK.2.1
  obtain ⟨hk16, hk5, hk6, hk15, hkR, hkG, hkS, hkP⟩ := id hka
  have hlm := hF.2.2.2.2.2.2.2.2
  have hsz27 := hkR.2.1
  refine P_aw_op (L' := [.ref (w.2.2 0), P_z 1]) (st' := [.ref (w.2.2 0)]) P_i160_0 rfl (show P_aw _ _ _ 1 [.ref (w.2.2 0), P_z 1] [.ref (w.2.2 0)] _ _ from ?_)
  refine P_aw_call P_i160_1 rfl rfl (fun _ => rfl) rfl rfl rfl rfl (y2 := 168) (as := [.ref (w.2.2 0)]) (r0 := []) (P_inv_v (hw.2.1 0 (by decide)) (hw.s rfl) rfl rfl) (Nat.le_of_ble_eq_true rfl) (by decide) rfl (Nat.le_of_ble_eq_true rfl) (show P_aw _ _ _ 0 [.ref (w.2.2 0)] [] _ _ from ?_)
  refine P_aw_op (L' := [.ref (w.2.2 0)]) (st' := [.ref (w.2.2 0)]) P_i168_0 rfl (show P_aw _ _ _ 1 [.ref (w.2.2 0)] [.ref (w.2.2 0)] _ _ from ?_)
  refine P_aw_getR P_i168_1 (hw.2.1 0 (by decide)) (hw.s rfl) rfl rfl (show P_aw _ _ _ 4 [.ref (w.2.2 0)] [.ref (w.2.2 29)] _ _ from ?_)
  refine P_aw_call P_i168_4 rfl rfl (fun _ => rfl) rfl rfl rfl rfl (y2 := 92) (as := [.ref (w.2.2 29)]) (r0 := []) (P_inv_v (hw.2.1 29 (by decide)) (hw.s rfl) rfl rfl) (Nat.le_of_ble_eq_true rfl) (by decide) rfl (Nat.le_of_ble_eq_true rfl) (show P_aw _ _ _ 0 [.ref (w.2.2 29)] [] _ _ from ?_)
  refine P_aw_op (L' := [.ref (w.2.2 29)]) (st' := [.ref (w.2.2 29)]) P_i92_0 rfl (show P_aw _ _ _ 1 [.ref (w.2.2 29)] [.ref (w.2.2 29)] _ _ from ?_)
  refine P_aw_getv P_i92_1 (hw.2.1 29 (by decide)) (hw.s rfl) rfl rfl (hrd1) (show P_aw _ _ _ 4 [.ref (w.2.2 29)] [P_z 1] _ _ from ?_)
  refine P_aw_end P_i92_4 rfl rfl (fun _ => rfl) rfl ?_
  show P_aw _ _ _ 7 [.ref (w.2.2 0)] [P_z 1] _ _
  refine P_aw_izt P_i168_7 ⟨by decide, by decide⟩ (P_ci_net (by omega)) (show P_aw _ _ _ 21 [.ref (w.2.2 0)] [] _ _ from ?_)
  refine P_aw_end P_i168_21 rfl rfl (fun _ => rfl) rfl ?_
  show P_aw _ _ _ 4 [.ref (w.2.2 0), P_z 1] [] _ _
  refine P_aw_op (L' := [.ref (w.2.2 0), P_z 1]) (st' := [P_z 1]) P_i160_4 rfl (show P_aw _ _ _ 5 [.ref (w.2.2 0), P_z 1] [P_z 1] _ _ from ?_)
  refine P_aw_izf P_i160_5 ⟨by decide, by decide⟩ (P_ci_ltf (by omega)) (show P_aw _ _ _ 8 [.ref (w.2.2 0), P_z 1] [] _ _ from ?_)
  refine P_aw_op (L' := [.ref (w.2.2 0), P_z 1]) (st' := [P_z 1]) P_i160_8 rfl (show P_aw _ _ _ 9 [.ref (w.2.2 0), P_z 1] [P_z 1] _ _ from ?_)
  refine P_aw_op (L' := [.ref (w.2.2 0), P_z 1]) (st' := [P_z 1, P_z 1]) P_i160_9 rfl (show P_aw _ _ _ 10 [.ref (w.2.2 0), P_z 1] [P_z 1, P_z 1] _ _ from ?_)
  refine P_aw_ict P_i160_10 ⟨by decide, by decide⟩ ⟨by decide, by decide⟩ (P_ci_let (by omega)) (show P_aw _ _ _ 23 [.ref (w.2.2 0), P_z 1] [] _ _ from ?_)
  refine P_aw_op (L' := [.ref (w.2.2 0), P_z 1]) (st' := [.ref (w.2.2 0)]) P_i160_23 rfl (show P_aw _ _ _ 24 [.ref (w.2.2 0), P_z 1] [.ref (w.2.2 0)] _ _ from ?_)
  refine P_aw_getR P_i160_24 (hw.2.1 0 (by decide)) (hw.s rfl) rfl rfl (show P_aw _ _ _ 27 [.ref (w.2.2 0), P_z 1] [.ref (w.2.2 31)] _ _ from ?_)
  refine P_aw_call P_i160_27 rfl rfl (fun _ => rfl) rfl rfl rfl rfl (y2 := 3) (as := [.ref (w.2.2 31)]) (r0 := []) (P_inv_v (hw.2.1 31 (by decide)) (hw.s rfl) rfl rfl) (Nat.le_of_ble_eq_true rfl) (by decide) rfl (Nat.le_of_ble_eq_true rfl) (show P_aw _ _ _ 0 [.ref (w.2.2 31)] [] _ _ from ?_)
  refine P_aw_op (L' := [.ref (w.2.2 31)]) (st' := [.ref (w.2.2 31)]) P_i3_0 rfl (show P_aw _ _ _ 1 [.ref (w.2.2 31)] [.ref (w.2.2 31)] _ _ from ?_)
  refine P_aw_getv P_i3_1 (hw.2.1 31 (by decide)) (hw.s rfl) rfl rfl (hk16) (show P_aw _ _ _ 4 [.ref (w.2.2 31)] [P_z 1] _ _ from ?_)
  refine P_aw_izf P_i3_4 ⟨by decide, by decide⟩ (P_ci_eqf (by omega)) (show P_aw _ _ _ 7 [.ref (w.2.2 31)] [] _ _ from ?_)
  refine P_aw_end P_i3_7 rfl rfl (fun _ => rfl) rfl ?_
  show P_aw _ _ _ 30 [.ref (w.2.2 0), P_z 1] [] _ _
  refine P_aw_op (L' := [.ref (w.2.2 0), P_z 1]) (st' := [P_z 1]) P_i160_30 rfl (show P_aw _ _ _ 31 [.ref (w.2.2 0), P_z 1] [P_z 1] _ _ from ?_)
  refine P_aw_izt P_i160_31 ⟨by decide, by decide⟩ (P_ci_net (by omega)) (show P_aw _ _ _ 44 [.ref (w.2.2 0), P_z 1] [] _ _ from ?_)
  refine P_aw_op (L' := [.ref (w.2.2 0), P_z 1]) (st' := [.ref (w.2.2 0)]) P_i160_44 rfl (show P_aw _ _ _ 45 [.ref (w.2.2 0), P_z 1] [.ref (w.2.2 0)] _ _ from ?_)
  refine P_aw_getR P_i160_45 (hw.2.1 0 (by decide)) (hw.s rfl) rfl rfl (show P_aw _ _ _ 48 [.ref (w.2.2 0), P_z 1] [.ref (w.2.2 31)] _ _ from ?_)
  refine P_aw_call P_i160_48 rfl rfl (fun _ => rfl) rfl rfl rfl rfl (y2 := 130) (as := [.ref (w.2.2 31)]) (r0 := []) (P_inv_v (hw.2.1 31 (by decide)) (hw.s rfl) rfl rfl) (Nat.le_of_ble_eq_true rfl) (by decide) rfl (Nat.le_of_ble_eq_true rfl) (show P_aw _ _ _ 0 [.ref (w.2.2 31)] [] _ _ from ?_)
  refine P_aw_op (L' := [.ref (w.2.2 31)]) (st' := [.ref (w.2.2 31)]) P_i130_0 rfl (show P_aw _ _ _ 1 [.ref (w.2.2 31)] [.ref (w.2.2 31)] _ _ from ?_)
  refine P_aw_getv P_i130_1 (hw.2.1 31 (by decide)) (hw.s rfl) rfl rfl (hk6) (show P_aw _ _ _ 4 [.ref (w.2.2 31)] [P_z ck] _ _ from ?_)
  refine P_aw_end P_i130_4 rfl rfl (fun _ => rfl) rfl ?_
  show P_aw _ _ _ 51 [.ref (w.2.2 0), P_z 1] [P_z ck] _ _
  refine P_aw_end P_i160_51 rfl rfl (fun _ => rfl) rfl ?_
  exact q

theorem s_dn0 {w : P_Lw} (hw : P_Cw w) {d : Nat} {Q : P_R → P_A → Prop} {σ : P_A} {ns : Int} {tb : Int → Nat} {rw : Int → Int} {vr : Int → Int → Int} {cl : Int → Int} {V : Int → Int → Int → Int} {cs : List A_cd} {od : Int → Int} {it : Int} {ki ci : Int → Int} {gp oi lm : Int} {nv : Int} (hB : A_B w σ ns tb rw vr cl V cs od it ki ci gp oi lm nv) {x : Int} (hx : σ 44 2 = x) (q : Q (.inl (some (P_z x))) σ) : P_aw w (d + 8) 157 0 [.ref (w.2.2 0), P_z 0] [] σ Q := by
  obtain ⟨hA, hX, hF, hK, hO, hok, htk, hN, hn01, hrd1, hfp⟩ := id hB
  have hns := hA.2.1
  have hit := hF.2.1
  have hsz0 := hK.2.1
  refine P_aw_op (L' := [.ref (w.2.2 0), P_z 0]) (st' := [.ref (w.2.2 0)]) P_i157_0 rfl (show P_aw _ _ _ 1 [.ref (w.2.2 0), P_z 0] [.ref (w.2.2 0)] _ _ from ?_)
  refine P_aw_call P_i157_1 rfl rfl (fun _ => rfl) rfl rfl rfl rfl (y2 := 168) (as := [.ref (w.2.2 0)]) (r0 := []) (P_inv_v (hw.2.1 0 (by decide)) (hw.s rfl) rfl rfl) (Nat.le_of_ble_eq_true rfl) (by decide) rfl (Nat.le_of_ble_eq_true rfl) (show P_aw _ _ _ 0 [.ref (w.2.2 0)] [] _ _ from ?_)
  refine P_aw_op (L' := [.ref (w.2.2 0)]) (st' := [.ref (w.2.2 0)]) P_i168_0 rfl (show P_aw _ _ _ 1 [.ref (w.2.2 0)] [.ref (w.2.2 0)] _ _ from ?_)
  refine P_aw_getR P_i168_1 (hw.2.1 0 (by decide)) (hw.s rfl) rfl rfl (show P_aw _ _ _ 4 [.ref (w.2.2 0)] [.ref (w.2.2 29)] _ _ from ?_)
  refine P_aw_call P_i168_4 rfl rfl (fun _ => rfl) rfl rfl rfl rfl (y2 := 92) (as := [.ref (w.2.2 29)]) (r0 := []) (P_inv_v (hw.2.1 29 (by decide)) (hw.s rfl) rfl rfl) (Nat.le_of_ble_eq_true rfl) (by decide) rfl (Nat.le_of_ble_eq_true rfl) (show P_aw _ _ _ 0 [.ref (w.2.2 29)] [] _ _ from ?_)
  refine P_aw_op (L' := [.ref (w.2.2 29)]) (st' := [.ref (w.2.2 29)]) P_i92_0 rfl (show P_aw _ _ _ 1 [.ref (w.2.2 29)] [.ref (w.2.2 29)] _ _ from ?_)
  refine P_aw_getv P_i92_1 (hw.2.1 29 (by decide)) (hw.s rfl) rfl rfl (hrd1) (show P_aw _ _ _ 4 [.ref (w.2.2 29)] [P_z 1] _ _ from ?_)
  refine P_aw_end P_i92_4 rfl rfl (fun _ => rfl) rfl ?_
  show P_aw _ _ _ 7 [.ref (w.2.2 0)] [P_z 1] _ _
  refine P_aw_izt P_i168_7 ⟨by decide, by decide⟩ (P_ci_net (by omega)) (show P_aw _ _ _ 21 [.ref (w.2.2 0)] [] _ _ from ?_)
  refine P_aw_end P_i168_21 rfl rfl (fun _ => rfl) rfl ?_
  show P_aw _ _ _ 4 [.ref (w.2.2 0), P_z 0] [] _ _
  refine P_aw_op (L' := [.ref (w.2.2 0), P_z 0]) (st' := [P_z 0]) P_i157_4 rfl (show P_aw _ _ _ 5 [.ref (w.2.2 0), P_z 0] [P_z 0] _ _ from ?_)
  refine P_aw_izf P_i157_5 ⟨by decide, by decide⟩ (P_ci_ltf (by omega)) (show P_aw _ _ _ 8 [.ref (w.2.2 0), P_z 0] [] _ _ from ?_)
  refine P_aw_op (L' := [.ref (w.2.2 0), P_z 0]) (st' := [P_z 0]) P_i157_8 rfl (show P_aw _ _ _ 9 [.ref (w.2.2 0), P_z 0] [P_z 0] _ _ from ?_)
  refine P_aw_op (L' := [.ref (w.2.2 0), P_z 0]) (st' := [P_z 2, P_z 0]) P_i157_9 rfl (show P_aw _ _ _ 10 [.ref (w.2.2 0), P_z 0] [P_z 2, P_z 0] _ _ from ?_)
  refine P_aw_ict P_i157_10 ⟨by decide, by decide⟩ ⟨by decide, by decide⟩ (P_ci_let (by omega)) (show P_aw _ _ _ 23 [.ref (w.2.2 0), P_z 0] [] _ _ from ?_)
  refine P_aw_op (L' := [.ref (w.2.2 0), P_z 0]) (st' := [.ref (w.2.2 0)]) P_i157_23 rfl (show P_aw _ _ _ 24 [.ref (w.2.2 0), P_z 0] [.ref (w.2.2 0)] _ _ from ?_)
  refine P_aw_getR P_i157_24 (hw.2.1 0 (by decide)) (hw.s rfl) rfl rfl (show P_aw _ _ _ 27 [.ref (w.2.2 0), P_z 0] [.ref (w.2.2 44)] _ _ from ?_)
  refine P_aw_op (L' := [.ref (w.2.2 0), P_z 0]) (st' := [P_z 0, .ref (w.2.2 44)]) P_i157_27 rfl (show P_aw _ _ _ 28 [.ref (w.2.2 0), P_z 0] [P_z 0, .ref (w.2.2 44)] _ _ from ?_)
  refine P_aw_call P_i157_28 rfl rfl (fun _ => rfl) rfl rfl rfl rfl (y2 := 89) (as := [.ref (w.2.2 44), P_z 0]) (r0 := []) (P_inv_v hw.2.2 (hw.s rfl) rfl rfl) (Nat.le_of_ble_eq_true rfl) (by decide) rfl (Nat.le_of_ble_eq_true rfl) (show P_aw _ _ _ 0 [.ref (w.2.2 44), P_z 0] [] _ _ from ?_)
  refine P_aw_op (L' := [.ref (w.2.2 44), P_z 0]) (st' := [P_z 0]) P_i89_0 rfl (show P_aw _ _ _ 1 [.ref (w.2.2 44), P_z 0] [P_z 0] _ _ from ?_)
  refine P_aw_op (L' := [.ref (w.2.2 44), P_z 0]) (st' := [P_z 2, P_z 0]) P_i89_1 rfl (show P_aw _ _ _ 2 [.ref (w.2.2 44), P_z 0] [P_z 2, P_z 0] _ _ from ?_)
  refine P_aw_ict P_i89_2 ⟨by decide, by decide⟩ ⟨by decide, by decide⟩ (P_ci_net (by omega)) (show P_aw _ _ _ 10 [.ref (w.2.2 44), P_z 0] [] _ _ from ?_)
  refine P_aw_op (L' := [.ref (w.2.2 44), P_z 0]) (st' := [P_z 0]) P_i89_10 rfl (show P_aw _ _ _ 11 [.ref (w.2.2 44), P_z 0] [P_z 0] _ _ from ?_)
  refine P_aw_izf P_i89_11 ⟨by decide, by decide⟩ (P_ci_nef (by omega)) (show P_aw _ _ _ 14 [.ref (w.2.2 44), P_z 0] [] _ _ from ?_)
  refine P_aw_op (L' := [.ref (w.2.2 44), P_z 0]) (st' := [.ref (w.2.2 44)]) P_i89_14 rfl (show P_aw _ _ _ 15 [.ref (w.2.2 44), P_z 0] [.ref (w.2.2 44)] _ _ from ?_)
  refine P_aw_getv P_i89_15 hw.2.2 (hw.s rfl) rfl rfl (hx) (show P_aw _ _ _ 18 [.ref (w.2.2 44), P_z 0] [P_z x] _ _ from ?_)
  refine P_aw_goto P_i89_18 (show P_aw _ _ _ 25 [.ref (w.2.2 44), P_z 0] [P_z x] _ _ from ?_)
  refine P_aw_end P_i89_25 rfl rfl (fun _ => rfl) rfl ?_
  show P_aw _ _ _ 31 [.ref (w.2.2 0), P_z 0] [P_z x] _ _
  refine P_aw_end P_i157_31 rfl rfl (fun _ => rfl) rfl ?_
  exact q

theorem s_dn1 {w : P_Lw} (hw : P_Cw w) {d : Nat} {Q : P_R → P_A → Prop} {σ : P_A} {ns : Int} {tb : Int → Nat} {rw : Int → Int} {vr : Int → Int → Int} {cl : Int → Int} {V : Int → Int → Int → Int} {cs : List A_cd} {od : Int → Int} {it : Int} {ki ci : Int → Int} {gp oi lm : Int} {nv : Int} (hB : A_B w σ ns tb rw vr cl V cs od it ki ci gp oi lm nv) {x : Int} (hx : σ 44 3 = x) (q : Q (.inl (some (P_z x))) σ) : P_aw w (d + 8) 157 0 [.ref (w.2.2 0), P_z 1] [] σ Q := by
  obtain ⟨hA, hX, hF, hK, hO, hok, htk, hN, hn01, hrd1, hfp⟩ := id hB
  have hns := hA.2.1
  have hit := hF.2.1
  have hsz0 := hK.2.1
  refine P_aw_op (L' := [.ref (w.2.2 0), P_z 1]) (st' := [.ref (w.2.2 0)]) P_i157_0 rfl (show P_aw _ _ _ 1 [.ref (w.2.2 0), P_z 1] [.ref (w.2.2 0)] _ _ from ?_)
  refine P_aw_call P_i157_1 rfl rfl (fun _ => rfl) rfl rfl rfl rfl (y2 := 168) (as := [.ref (w.2.2 0)]) (r0 := []) (P_inv_v (hw.2.1 0 (by decide)) (hw.s rfl) rfl rfl) (Nat.le_of_ble_eq_true rfl) (by decide) rfl (Nat.le_of_ble_eq_true rfl) (show P_aw _ _ _ 0 [.ref (w.2.2 0)] [] _ _ from ?_)
  refine P_aw_op (L' := [.ref (w.2.2 0)]) (st' := [.ref (w.2.2 0)]) P_i168_0 rfl (show P_aw _ _ _ 1 [.ref (w.2.2 0)] [.ref (w.2.2 0)] _ _ from ?_)
  refine P_aw_getR P_i168_1 (hw.2.1 0 (by decide)) (hw.s rfl) rfl rfl (show P_aw _ _ _ 4 [.ref (w.2.2 0)] [.ref (w.2.2 29)] _ _ from ?_)
  refine P_aw_call P_i168_4 rfl rfl (fun _ => rfl) rfl rfl rfl rfl (y2 := 92) (as := [.ref (w.2.2 29)]) (r0 := []) (P_inv_v (hw.2.1 29 (by decide)) (hw.s rfl) rfl rfl) (Nat.le_of_ble_eq_true rfl) (by decide) rfl (Nat.le_of_ble_eq_true rfl) (show P_aw _ _ _ 0 [.ref (w.2.2 29)] [] _ _ from ?_)
  refine P_aw_op (L' := [.ref (w.2.2 29)]) (st' := [.ref (w.2.2 29)]) P_i92_0 rfl (show P_aw _ _ _ 1 [.ref (w.2.2 29)] [.ref (w.2.2 29)] _ _ from ?_)
  refine P_aw_getv P_i92_1 (hw.2.1 29 (by decide)) (hw.s rfl) rfl rfl (hrd1) (show P_aw _ _ _ 4 [.ref (w.2.2 29)] [P_z 1] _ _ from ?_)
  refine P_aw_end P_i92_4 rfl rfl (fun _ => rfl) rfl ?_
  show P_aw _ _ _ 7 [.ref (w.2.2 0)] [P_z 1] _ _
  refine P_aw_izt P_i168_7 ⟨by decide, by decide⟩ (P_ci_net (by omega)) (show P_aw _ _ _ 21 [.ref (w.2.2 0)] [] _ _ from ?_)
  refine P_aw_end P_i168_21 rfl rfl (fun _ => rfl) rfl ?_
  show P_aw _ _ _ 4 [.ref (w.2.2 0), P_z 1] [] _ _
  refine P_aw_op (L' := [.ref (w.2.2 0), P_z 1]) (st' := [P_z 1]) P_i157_4 rfl (show P_aw _ _ _ 5 [.ref (w.2.2 0), P_z 1] [P_z 1] _ _ from ?_)
  refine P_aw_izf P_i157_5 ⟨by decide, by decide⟩ (P_ci_ltf (by omega)) (show P_aw _ _ _ 8 [.ref (w.2.2 0), P_z 1] [] _ _ from ?_)
  refine P_aw_op (L' := [.ref (w.2.2 0), P_z 1]) (st' := [P_z 1]) P_i157_8 rfl (show P_aw _ _ _ 9 [.ref (w.2.2 0), P_z 1] [P_z 1] _ _ from ?_)
  refine P_aw_op (L' := [.ref (w.2.2 0), P_z 1]) (st' := [P_z 2, P_z 1]) P_i157_9 rfl (show P_aw _ _ _ 10 [.ref (w.2.2 0), P_z 1] [P_z 2, P_z 1] _ _ from ?_)
  refine P_aw_ict P_i157_10 ⟨by decide, by decide⟩ ⟨by decide, by decide⟩ (P_ci_let (by omega)) (show P_aw _ _ _ 23 [.ref (w.2.2 0), P_z 1] [] _ _ from ?_)
  refine P_aw_op (L' := [.ref (w.2.2 0), P_z 1]) (st' := [.ref (w.2.2 0)]) P_i157_23 rfl (show P_aw _ _ _ 24 [.ref (w.2.2 0), P_z 1] [.ref (w.2.2 0)] _ _ from ?_)
  refine P_aw_getR P_i157_24 (hw.2.1 0 (by decide)) (hw.s rfl) rfl rfl (show P_aw _ _ _ 27 [.ref (w.2.2 0), P_z 1] [.ref (w.2.2 44)] _ _ from ?_)
  refine P_aw_op (L' := [.ref (w.2.2 0), P_z 1]) (st' := [P_z 1, .ref (w.2.2 44)]) P_i157_27 rfl (show P_aw _ _ _ 28 [.ref (w.2.2 0), P_z 1] [P_z 1, .ref (w.2.2 44)] _ _ from ?_)
  refine P_aw_call P_i157_28 rfl rfl (fun _ => rfl) rfl rfl rfl rfl (y2 := 89) (as := [.ref (w.2.2 44), P_z 1]) (r0 := []) (P_inv_v hw.2.2 (hw.s rfl) rfl rfl) (Nat.le_of_ble_eq_true rfl) (by decide) rfl (Nat.le_of_ble_eq_true rfl) (show P_aw _ _ _ 0 [.ref (w.2.2 44), P_z 1] [] _ _ from ?_)
  refine P_aw_op (L' := [.ref (w.2.2 44), P_z 1]) (st' := [P_z 1]) P_i89_0 rfl (show P_aw _ _ _ 1 [.ref (w.2.2 44), P_z 1] [P_z 1] _ _ from ?_)
  refine P_aw_op (L' := [.ref (w.2.2 44), P_z 1]) (st' := [P_z 2, P_z 1]) P_i89_1 rfl (show P_aw _ _ _ 2 [.ref (w.2.2 44), P_z 1] [P_z 2, P_z 1] _ _ from ?_)
  refine P_aw_ict P_i89_2 ⟨by decide, by decide⟩ ⟨by decide, by decide⟩ (P_ci_net (by omega)) (show P_aw _ _ _ 10 [.ref (w.2.2 44), P_z 1] [] _ _ from ?_)
  refine P_aw_op (L' := [.ref (w.2.2 44), P_z 1]) (st' := [P_z 1]) P_i89_10 rfl (show P_aw _ _ _ 11 [.ref (w.2.2 44), P_z 1] [P_z 1] _ _ from ?_)
  refine P_aw_izt P_i89_11 ⟨by decide, by decide⟩ (P_ci_net (by omega)) (show P_aw _ _ _ 21 [.ref (w.2.2 44), P_z 1] [] _ _ from ?_)
  refine P_aw_op (L' := [.ref (w.2.2 44), P_z 1]) (st' := [.ref (w.2.2 44)]) P_i89_21 rfl (show P_aw _ _ _ 22 [.ref (w.2.2 44), P_z 1] [.ref (w.2.2 44)] _ _ from ?_)
  refine P_aw_getv P_i89_22 hw.2.2 (hw.s rfl) rfl rfl (hx) (show P_aw _ _ _ 25 [.ref (w.2.2 44), P_z 1] [P_z x] _ _ from ?_)
  refine P_aw_end P_i89_25 rfl rfl (fun _ => rfl) rfl ?_
  show P_aw _ _ _ 31 [.ref (w.2.2 0), P_z 1] [P_z x] _ _
  refine P_aw_end P_i157_31 rfl rfl (fun _ => rfl) rfl ?_
  exact q

theorem s_dn2 {w : P_Lw} (hw : P_Cw w) {d : Nat} {Q : P_R → P_A → Prop} {σ : P_A} {ns : Int} {tb : Int → Nat} {rw : Int → Int} {vr : Int → Int → Int} {cl : Int → Int} {V : Int → Int → Int → Int} {cs : List A_cd} {od : Int → Int} {it : Int} {ki ci : Int → Int} {gp oi lm : Int} {nv : Int} (hB : A_B w σ ns tb rw vr cl V cs od it ki ci gp oi lm nv) {x : Int} (hx : σ 44 1 = x) (q : Q (.inl (some (P_z x))) σ) : P_aw w (d + 8) 157 0 [.ref (w.2.2 0), P_z 2] [] σ Q := by
  obtain ⟨hA, hX, hF, hK, hO, hok, htk, hN, hn01, hrd1, hfp⟩ := id hB
  have hns := hA.2.1
  have hit := hF.2.1
  have hsz0 := hK.2.1
  refine P_aw_op (L' := [.ref (w.2.2 0), P_z 2]) (st' := [.ref (w.2.2 0)]) P_i157_0 rfl (show P_aw _ _ _ 1 [.ref (w.2.2 0), P_z 2] [.ref (w.2.2 0)] _ _ from ?_)
  refine P_aw_call P_i157_1 rfl rfl (fun _ => rfl) rfl rfl rfl rfl (y2 := 168) (as := [.ref (w.2.2 0)]) (r0 := []) (P_inv_v (hw.2.1 0 (by decide)) (hw.s rfl) rfl rfl) (Nat.le_of_ble_eq_true rfl) (by decide) rfl (Nat.le_of_ble_eq_true rfl) (show P_aw _ _ _ 0 [.ref (w.2.2 0)] [] _ _ from ?_)
  refine P_aw_op (L' := [.ref (w.2.2 0)]) (st' := [.ref (w.2.2 0)]) P_i168_0 rfl (show P_aw _ _ _ 1 [.ref (w.2.2 0)] [.ref (w.2.2 0)] _ _ from ?_)
  refine P_aw_getR P_i168_1 (hw.2.1 0 (by decide)) (hw.s rfl) rfl rfl (show P_aw _ _ _ 4 [.ref (w.2.2 0)] [.ref (w.2.2 29)] _ _ from ?_)
  refine P_aw_call P_i168_4 rfl rfl (fun _ => rfl) rfl rfl rfl rfl (y2 := 92) (as := [.ref (w.2.2 29)]) (r0 := []) (P_inv_v (hw.2.1 29 (by decide)) (hw.s rfl) rfl rfl) (Nat.le_of_ble_eq_true rfl) (by decide) rfl (Nat.le_of_ble_eq_true rfl) (show P_aw _ _ _ 0 [.ref (w.2.2 29)] [] _ _ from ?_)
  refine P_aw_op (L' := [.ref (w.2.2 29)]) (st' := [.ref (w.2.2 29)]) P_i92_0 rfl (show P_aw _ _ _ 1 [.ref (w.2.2 29)] [.ref (w.2.2 29)] _ _ from ?_)
  refine P_aw_getv P_i92_1 (hw.2.1 29 (by decide)) (hw.s rfl) rfl rfl (hrd1) (show P_aw _ _ _ 4 [.ref (w.2.2 29)] [P_z 1] _ _ from ?_)
  refine P_aw_end P_i92_4 rfl rfl (fun _ => rfl) rfl ?_
  show P_aw _ _ _ 7 [.ref (w.2.2 0)] [P_z 1] _ _
  refine P_aw_izt P_i168_7 ⟨by decide, by decide⟩ (P_ci_net (by omega)) (show P_aw _ _ _ 21 [.ref (w.2.2 0)] [] _ _ from ?_)
  refine P_aw_end P_i168_21 rfl rfl (fun _ => rfl) rfl ?_
  show P_aw _ _ _ 4 [.ref (w.2.2 0), P_z 2] [] _ _
  refine P_aw_op (L' := [.ref (w.2.2 0), P_z 2]) (st' := [P_z 2]) P_i157_4 rfl (show P_aw _ _ _ 5 [.ref (w.2.2 0), P_z 2] [P_z 2] _ _ from ?_)
  refine P_aw_izf P_i157_5 ⟨by decide, by decide⟩ (P_ci_ltf (by omega)) (show P_aw _ _ _ 8 [.ref (w.2.2 0), P_z 2] [] _ _ from ?_)
  refine P_aw_op (L' := [.ref (w.2.2 0), P_z 2]) (st' := [P_z 2]) P_i157_8 rfl (show P_aw _ _ _ 9 [.ref (w.2.2 0), P_z 2] [P_z 2] _ _ from ?_)
  refine P_aw_op (L' := [.ref (w.2.2 0), P_z 2]) (st' := [P_z 2, P_z 2]) P_i157_9 rfl (show P_aw _ _ _ 10 [.ref (w.2.2 0), P_z 2] [P_z 2, P_z 2] _ _ from ?_)
  refine P_aw_ict P_i157_10 ⟨by decide, by decide⟩ ⟨by decide, by decide⟩ (P_ci_let (by omega)) (show P_aw _ _ _ 23 [.ref (w.2.2 0), P_z 2] [] _ _ from ?_)
  refine P_aw_op (L' := [.ref (w.2.2 0), P_z 2]) (st' := [.ref (w.2.2 0)]) P_i157_23 rfl (show P_aw _ _ _ 24 [.ref (w.2.2 0), P_z 2] [.ref (w.2.2 0)] _ _ from ?_)
  refine P_aw_getR P_i157_24 (hw.2.1 0 (by decide)) (hw.s rfl) rfl rfl (show P_aw _ _ _ 27 [.ref (w.2.2 0), P_z 2] [.ref (w.2.2 44)] _ _ from ?_)
  refine P_aw_op (L' := [.ref (w.2.2 0), P_z 2]) (st' := [P_z 2, .ref (w.2.2 44)]) P_i157_27 rfl (show P_aw _ _ _ 28 [.ref (w.2.2 0), P_z 2] [P_z 2, .ref (w.2.2 44)] _ _ from ?_)
  refine P_aw_call P_i157_28 rfl rfl (fun _ => rfl) rfl rfl rfl rfl (y2 := 89) (as := [.ref (w.2.2 44), P_z 2]) (r0 := []) (P_inv_v hw.2.2 (hw.s rfl) rfl rfl) (Nat.le_of_ble_eq_true rfl) (by decide) rfl (Nat.le_of_ble_eq_true rfl) (show P_aw _ _ _ 0 [.ref (w.2.2 44), P_z 2] [] _ _ from ?_)
  refine P_aw_op (L' := [.ref (w.2.2 44), P_z 2]) (st' := [P_z 2]) P_i89_0 rfl (show P_aw _ _ _ 1 [.ref (w.2.2 44), P_z 2] [P_z 2] _ _ from ?_)
  refine P_aw_op (L' := [.ref (w.2.2 44), P_z 2]) (st' := [P_z 2, P_z 2]) P_i89_1 rfl (show P_aw _ _ _ 2 [.ref (w.2.2 44), P_z 2] [P_z 2, P_z 2] _ _ from ?_)
  refine P_aw_icf P_i89_2 ⟨by decide, by decide⟩ ⟨by decide, by decide⟩ (P_ci_nef (by omega)) (show P_aw _ _ _ 5 [.ref (w.2.2 44), P_z 2] [] _ _ from ?_)
  refine P_aw_op (L' := [.ref (w.2.2 44), P_z 2]) (st' := [.ref (w.2.2 44)]) P_i89_5 rfl (show P_aw _ _ _ 6 [.ref (w.2.2 44), P_z 2] [.ref (w.2.2 44)] _ _ from ?_)
  refine P_aw_getv P_i89_6 hw.2.2 (hw.s rfl) rfl rfl (hx) (show P_aw _ _ _ 9 [.ref (w.2.2 44), P_z 2] [P_z x] _ _ from ?_)
  refine P_aw_end P_i89_9 rfl rfl (fun _ => rfl) rfl ?_
  show P_aw _ _ _ 31 [.ref (w.2.2 0), P_z 2] [P_z x] _ _
  refine P_aw_end P_i157_31 rfl rfl (fun _ => rfl) rfl ?_
  exact q

theorem s_take {w : P_Lw} (hw : P_Cw w) {d : Nat} {Q : P_R → P_A → Prop} {σ : P_A} {ns : Int} {tb : Int → Nat} {rw : Int → Int} {vr : Int → Int → Int} {cl : Int → Int} {V : Int → Int → Int → Int} {cs : List A_cd} {od : Int → Int} {it : Int} {ki ci : Int → Int} {gp oi lm : Int} {nv : Int} (hB : A_B w σ ns tb rw vr cl V cs od it ki ci gp oi lm nv) {rd ck mt : Int} {sz : Nat} (hka : A_ka σ V rw it ki ci gp oi lm rd ck mt sz) {pl : Int} (hp0 : σ 44 0 = 1) (hp1 : σ 44 1 = pl) (hpl : 0 ≤ pl ∧ pl ≤ min ((sz : Nat) : Int) lm) (hrk : 0 ≤ rd ∧ 0 ≤ ck) (q1 : (pl < min ((sz : Nat) : Int) lm → ∀ σ', (∀ a b, a ≠ 44 → σ' a b = σ a b) → σ' 44 0 = 1 → σ' 44 1 = pl + 1 → (0 ≤ σ' 44 2 ∧ σ' 44 2 ≤ rd) → (0 ≤ σ' 44 3 ∧ σ' 44 3 ≤ ck) → Q (.inl (some (P_z 1))) σ')) (q : pl = min ((sz : Nat) : Int) lm → ∀ σ', (∀ a b, a ≠ 44 → σ' a b = σ a b) → σ' 44 0 = 1 → σ' 44 1 = pl → σ' 44 2 = rd → σ' 44 3 = ck → Q (.inl (some (P_z 0))) σ') : P_aw w (d + 8) 88 0 [.ref (w.2.2 44), .ref (w.2.2 31), P_un] [] σ Q := by
  obtain ⟨hA, hX, hF, hK, hO, hok, htk, hN, hn01, hrd1, hfp⟩ := id hB
  have hns := hA.2.1
  have hit := hF.2.1
  have hsz0 := hK.2.1
  obtain ⟨hk16, hk5, hk6, hk15, hkR, hkG, hkS, hkP⟩ := id hka
  have hlm := hF.2.2.2.2.2.2.2.2
  have hsz27 := hkR.2.1
  refine P_aw_op (L' := [.ref (w.2.2 44), .ref (w.2.2 31), P_un]) (st' := [.ref (w.2.2 44)]) P_i88_0 rfl (show P_aw _ _ _ 1 [.ref (w.2.2 44), .ref (w.2.2 31), P_un] [.ref (w.2.2 44)] _ _ from ?_)
  refine P_aw_getv P_i88_1 hw.2.2 (hw.s rfl) rfl rfl (hp1) (show P_aw _ _ _ 4 [.ref (w.2.2 44), .ref (w.2.2 31), P_un] [P_z pl] _ _ from ?_)
  refine P_aw_op (L' := [.ref (w.2.2 44), .ref (w.2.2 31), P_un]) (st' := [.ref (w.2.2 31), P_z pl]) P_i88_4 rfl (show P_aw _ _ _ 5 [.ref (w.2.2 44), .ref (w.2.2 31), P_un] [.ref (w.2.2 31), P_z pl] _ _ from ?_)
  refine P_aw_call P_i88_5 rfl rfl (fun _ => rfl) rfl rfl rfl rfl (y2 := 5) (as := [.ref (w.2.2 31)]) (r0 := [P_z pl]) (P_inv_v (hw.2.1 31 (by decide)) (hw.s rfl) rfl rfl) (Nat.le_of_ble_eq_true rfl) (by decide) rfl (Nat.le_of_ble_eq_true rfl) (show P_aw _ _ _ 0 [.ref (w.2.2 31)] [] _ _ from ?_)
  refine P_aw_op (L' := [.ref (w.2.2 31)]) (st' := [.ref (w.2.2 31)]) P_i5_0 rfl (show P_aw _ _ _ 1 [.ref (w.2.2 31)] [.ref (w.2.2 31)] _ _ from ?_)
  refine P_aw_getv P_i5_1 (hw.2.1 31 (by decide)) (hw.s rfl) rfl rfl (hk15) (show P_aw _ _ _ 4 [.ref (w.2.2 31)] [P_z (min ((sz : Nat) : Int) lm)] _ _ from ?_)
  refine P_aw_end P_i5_4 rfl rfl (fun _ => rfl) rfl ?_
  show P_aw _ _ _ 8 [.ref (w.2.2 44), .ref (w.2.2 31), P_un] [P_z (min ((sz : Nat) : Int) lm), P_z pl] _ _
  rcases Int.lt_or_le pl (min ((sz : Nat) : Int) lm) with hc1 | hc1
  · refine P_aw_icf P_i88_8 ⟨by omega, by omega⟩ ⟨by omega, by omega⟩ (P_ci_gef (by omega)) (show P_aw _ _ _ 11 [.ref (w.2.2 44), .ref (w.2.2 31), P_un] [] _ _ from ?_)
    refine P_aw_op (L' := [.ref (w.2.2 44), .ref (w.2.2 31), P_un]) (st' := [P_z 1]) P_i88_11 rfl (show P_aw _ _ _ 12 [.ref (w.2.2 44), .ref (w.2.2 31), P_un] [P_z 1] _ _ from ?_)
    refine P_aw_goto P_i88_12 (show P_aw _ _ _ 16 [.ref (w.2.2 44), .ref (w.2.2 31), P_un] [P_z 1] _ _ from ?_)
    refine P_aw_op (L' := [.ref (w.2.2 44), .ref (w.2.2 31), P_z 1]) (st' := []) P_i88_16 rfl (show P_aw _ _ _ 17 [.ref (w.2.2 44), .ref (w.2.2 31), P_z 1] [] _ _ from ?_)
    refine P_aw_op (L' := [.ref (w.2.2 44), .ref (w.2.2 31), P_z 1]) (st' := [P_z 1]) P_i88_17 rfl (show P_aw _ _ _ 18 [.ref (w.2.2 44), .ref (w.2.2 31), P_z 1] [P_z 1] _ _ from ?_)
    refine P_aw_izf P_i88_18 ⟨by decide, by decide⟩ (P_ci_eqf (by omega)) (show P_aw _ _ _ 21 [.ref (w.2.2 44), .ref (w.2.2 31), P_z 1] [] _ _ from ?_)
    refine P_aw_op (L' := [.ref (w.2.2 44), .ref (w.2.2 31), P_z 1]) (st' := [.ref (w.2.2 44)]) P_i88_21 rfl (show P_aw _ _ _ 22 [.ref (w.2.2 44), .ref (w.2.2 31), P_z 1] [.ref (w.2.2 44)] _ _ from ?_)
    refine P_aw_op (L' := [.ref (w.2.2 44), .ref (w.2.2 31), P_z 1]) (st' := [.ref (w.2.2 44), .ref (w.2.2 44)]) P_i88_22 rfl (show P_aw _ _ _ 23 [.ref (w.2.2 44), .ref (w.2.2 31), P_z 1] [.ref (w.2.2 44), .ref (w.2.2 44)] _ _ from ?_)
    refine P_aw_getv P_i88_23 hw.2.2 (hw.s rfl) rfl rfl (hp1) (show P_aw _ _ _ 26 [.ref (w.2.2 44), .ref (w.2.2 31), P_z 1] [P_z pl, .ref (w.2.2 44)] _ _ from ?_)
    refine P_aw_op (L' := [.ref (w.2.2 44), .ref (w.2.2 31), P_z 1]) (st' := [P_z 1, P_z pl, .ref (w.2.2 44)]) P_i88_26 rfl (show P_aw _ _ _ 27 [.ref (w.2.2 44), .ref (w.2.2 31), P_z 1] [P_z 1, P_z pl, .ref (w.2.2 44)] _ _ from ?_)
    refine P_aw_op (L' := [.ref (w.2.2 44), .ref (w.2.2 31), P_z 1]) (st' := [P_z (pl + 1), .ref (w.2.2 44)]) P_i88_27 P_o_iadd (show P_aw _ _ _ 28 [.ref (w.2.2 44), .ref (w.2.2 31), P_z 1] [P_z (pl + 1), .ref (w.2.2 44)] _ _ from ?_)
    refine P_aw_put P_i88_28 hw.2.2 (hw.s rfl) rfl rfl rfl (show P_aw _ _ _ 31 [.ref (w.2.2 44), .ref (w.2.2 31), P_z 1] [] _ _ from ?_)
    refine P_aw_op (L' := [.ref (w.2.2 44), .ref (w.2.2 31), P_z 1]) (st' := [.ref (w.2.2 44)]) P_i88_31 rfl (show P_aw _ _ _ 32 [.ref (w.2.2 44), .ref (w.2.2 31), P_z 1] [.ref (w.2.2 44)] _ _ from ?_)
    refine P_aw_op (L' := [.ref (w.2.2 44), .ref (w.2.2 31), P_z 1]) (st' := [P_z 1, .ref (w.2.2 44)]) P_i88_32 rfl (show P_aw _ _ _ 33 [.ref (w.2.2 44), .ref (w.2.2 31), P_z 1] [P_z 1, .ref (w.2.2 44)] _ _ from ?_)
    refine P_aw_izf P_i88_33 ⟨by decide, by decide⟩ (P_ci_eqf (by omega)) (show P_aw _ _ _ 36 [.ref (w.2.2 44), .ref (w.2.2 31), P_z 1] [.ref (w.2.2 44)] _ _ from ?_)
    refine P_aw_op (L' := [.ref (w.2.2 44), .ref (w.2.2 31), P_z 1]) (st' := [.ref (w.2.2 31), .ref (w.2.2 44)]) P_i88_36 rfl (show P_aw _ _ _ 37 [.ref (w.2.2 44), .ref (w.2.2 31), P_z 1] [.ref (w.2.2 31), .ref (w.2.2 44)] _ _ from ?_)
    refine P_aw_op (L' := [.ref (w.2.2 44), .ref (w.2.2 31), P_z 1]) (st' := [.ref (w.2.2 44), .ref (w.2.2 31), .ref (w.2.2 44)]) P_i88_37 rfl (show P_aw _ _ _ 38 [.ref (w.2.2 44), .ref (w.2.2 31), P_z 1] [.ref (w.2.2 44), .ref (w.2.2 31), .ref (w.2.2 44)] _ _ from ?_)
    refine P_aw_getv P_i88_38 hw.2.2 (hw.s rfl) rfl rfl (P_u2_at) (show P_aw _ _ _ 41 [.ref (w.2.2 44), .ref (w.2.2 31), P_z 1] [P_z (pl + 1), .ref (w.2.2 31), .ref (w.2.2 44)] _ _ from ?_)
    refine P_aw_call P_i88_41 rfl rfl (fun _ => rfl) rfl rfl rfl rfl (y2 := 6) (as := [.ref (w.2.2 31), P_z (pl + 1)]) (r0 := [.ref (w.2.2 44)]) (P_inv_v (hw.2.1 31 (by decide)) (hw.s rfl) rfl rfl) (Nat.le_of_ble_eq_true rfl) (by decide) rfl (Nat.le_of_ble_eq_true rfl) (show P_aw _ _ _ 0 [.ref (w.2.2 31), P_z (pl + 1)] [] _ _ from ?_)
    refine P_aw_op (L' := [.ref (w.2.2 31), P_z (pl + 1)]) (st' := [.ref (w.2.2 31)]) P_i6_0 rfl (show P_aw _ _ _ 1 [.ref (w.2.2 31), P_z (pl + 1)] [.ref (w.2.2 31)] _ _ from ?_)
    refine P_aw_getR P_i6_1 (hw.2.1 31 (by decide)) (hw.s rfl) rfl rfl (show P_aw _ _ _ 4 [.ref (w.2.2 31), P_z (pl + 1)] [.ref (w.2.2 6)] _ _ from ?_)
    refine P_aw_call P_i6_4 rfl rfl (fun _ => rfl) rfl rfl rfl rfl (y2 := 43) (as := [.ref (w.2.2 6)]) (r0 := []) (P_inv_v (hw.2.1 6 (by decide)) (hw.s rfl) rfl rfl) (Nat.le_of_ble_eq_true rfl) (by decide) rfl (Nat.le_of_ble_eq_true rfl) (show P_aw _ _ _ 0 [.ref (w.2.2 6)] [] _ _ from ?_)
    refine P_aw_op (L' := [.ref (w.2.2 6)]) (st' := [.ref (w.2.2 6)]) P_i43_0 rfl (show P_aw _ _ _ 1 [.ref (w.2.2 6)] [.ref (w.2.2 6)] _ _ from ?_)
    have hg2 := hF.2.2.2.2.2.2.1
    have hg3 := hF.2.1
    refine P_aw_getv P_i43_1 (hw.2.1 6 (by decide)) (hw.s rfl) rfl rfl ((P_u2_ne (by omega)).trans (hF.2.2.2.2.2.1)) (show P_aw _ _ _ 4 [.ref (w.2.2 6)] [P_z oi] _ _ from ?_)
    refine P_aw_op (L' := [.ref (w.2.2 6)]) (st' := [P_z (-1), P_z oi]) P_i43_4 rfl (show P_aw _ _ _ 5 [.ref (w.2.2 6)] [P_z (-1), P_z oi] _ _ from ?_)
    by_cases hc4 : oi = (-1)
    · refine P_aw_icf P_i43_5 ⟨by omega, by omega⟩ ⟨by decide, by decide⟩ (P_ci_nef (by omega)) (show P_aw _ _ _ 8 [.ref (w.2.2 6)] [] _ _ from ?_)
      refine P_aw_op (L' := [.ref (w.2.2 6)]) (st' := [.ref (w.2.2 6)]) P_i43_8 rfl (show P_aw _ _ _ 9 [.ref (w.2.2 6)] [.ref (w.2.2 6)] _ _ from ?_)
      have hp5 := A_gth_rg (ki := ki) (it := it) (gp := gp)
      refine P_aw_call P_i43_9 rfl rfl (fun _ => rfl) rfl rfl rfl rfl (y2 := 42) (as := [.ref (w.2.2 6)]) (r0 := []) (P_inv_v (hw.2.1 6 (by decide)) (hw.s rfl) rfl rfl) (Nat.le_of_ble_eq_true rfl) (by decide) rfl (Nat.le_of_ble_eq_true rfl) (s_gth hw (A_F_cg (fun a b h h2 => (P_u2_ne (by omega))) hF) ?_)
      show P_aw _ _ _ 12 [.ref (w.2.2 6)] [P_z (A_gth ki it gp)] _ _
      by_cases hc6 : (A_gth ki it gp) = 0
      · refine P_aw_izf P_i43_12 ⟨by omega, by omega⟩ (P_ci_nef (by omega)) (show P_aw _ _ _ 15 [.ref (w.2.2 6)] [] _ _ from ?_)
        refine P_aw_op (L' := [.ref (w.2.2 6)]) (st' := [P_z 1]) P_i43_15 rfl (show P_aw _ _ _ 16 [.ref (w.2.2 6)] [P_z 1] _ _ from ?_)
        refine P_aw_goto P_i43_16 (show P_aw _ _ _ 20 [.ref (w.2.2 6)] [P_z 1] _ _ from ?_)
        refine P_aw_end P_i43_20 rfl rfl (fun _ => rfl) rfl ?_
        show P_aw _ _ _ 7 [.ref (w.2.2 31), P_z (pl + 1)] [P_z 1] _ _
        refine P_aw_izf P_i6_7 ⟨by decide, by decide⟩ (P_ci_eqf (by omega)) (show P_aw _ _ _ 10 [.ref (w.2.2 31), P_z (pl + 1)] [] _ _ from ?_)
        refine P_aw_op (L' := [.ref (w.2.2 31), P_z (pl + 1)]) (st' := [.ref (w.2.2 31)]) P_i6_10 rfl (show P_aw _ _ _ 11 [.ref (w.2.2 31), P_z (pl + 1)] [.ref (w.2.2 31)] _ _ from ?_)
        refine P_aw_getR P_i6_11 (hw.2.1 31 (by decide)) (hw.s rfl) rfl rfl (show P_aw _ _ _ 14 [.ref (w.2.2 31), P_z (pl + 1)] [.ref (w.2.2 38)] _ _ from ?_)
        refine P_aw_op (L' := [.ref (w.2.2 31), P_z (pl + 1)]) (st' := [P_z (pl + 1), .ref (w.2.2 38)]) P_i6_14 rfl (show P_aw _ _ _ 15 [.ref (w.2.2 31), P_z (pl + 1)] [P_z (pl + 1), .ref (w.2.2 38)] _ _ from ?_)
        refine P_aw_op (L' := [.ref (w.2.2 31), P_z (pl + 1)]) (st' := [P_z 1, P_z (pl + 1), .ref (w.2.2 38)]) P_i6_15 rfl (show P_aw _ _ _ 16 [.ref (w.2.2 31), P_z (pl + 1)] [P_z 1, P_z (pl + 1), .ref (w.2.2 38)] _ _ from ?_)
        refine P_aw_op (L' := [.ref (w.2.2 31), P_z (pl + 1)]) (st' := [P_z ((pl + 1) - 1), .ref (w.2.2 38)]) P_i6_16 P_o_isub (show P_aw _ _ _ 17 [.ref (w.2.2 31), P_z (pl + 1)] [P_z ((pl + 1) - 1), .ref (w.2.2 38)] _ _ from ?_)
        refine P_aw_call P_i6_17 rfl rfl (fun _ => rfl) rfl rfl rfl rfl (y2 := 178) (as := [.ref (w.2.2 38), P_z ((pl + 1) - 1)]) (r0 := []) (fun _ _ => rfl) (Nat.le_of_ble_eq_true rfl) (by decide) rfl (Nat.le_of_ble_eq_true rfl) (show P_aw _ _ _ 0 [.ref (w.2.2 38), P_z ((pl + 1) - 1)] [] _ _ from ?_)
        refine P_aw_op (L' := [.ref (w.2.2 38), P_z ((pl + 1) - 1)]) (st' := [P_z ((pl + 1) - 1)]) P_i178_0 rfl (show P_aw _ _ _ 1 [.ref (w.2.2 38), P_z ((pl + 1) - 1)] [P_z ((pl + 1) - 1)] _ _ from ?_)
        refine P_aw_izf P_i178_1 ⟨by omega, by omega⟩ (P_ci_ltf (by omega)) (show P_aw _ _ _ 4 [.ref (w.2.2 38), P_z ((pl + 1) - 1)] [] _ _ from ?_)
        refine P_aw_op (L' := [.ref (w.2.2 38), P_z ((pl + 1) - 1)]) (st' := [P_z ((pl + 1) - 1)]) P_i178_4 rfl (show P_aw _ _ _ 5 [.ref (w.2.2 38), P_z ((pl + 1) - 1)] [P_z ((pl + 1) - 1)] _ _ from ?_)
        refine P_aw_op (L' := [.ref (w.2.2 38), P_z ((pl + 1) - 1)]) (st' := [.ref (w.2.2 38), P_z ((pl + 1) - 1)]) P_i178_5 rfl (show P_aw _ _ _ 6 [.ref (w.2.2 38), P_z ((pl + 1) - 1)] [.ref (w.2.2 38), P_z ((pl + 1) - 1)] _ _ from ?_)
        refine P_aw_alen P_i178_6 (hw.2.1 38 (by decide)) (hw.s rfl) (show P_aw _ _ _ 7 [.ref (w.2.2 38), P_z ((pl + 1) - 1)] [P_z 2744, P_z ((pl + 1) - 1)] _ _ from ?_)
        refine P_aw_icf P_i178_7 ⟨by omega, by omega⟩ ⟨by decide, by decide⟩ (P_ci_gef (by omega)) (show P_aw _ _ _ 10 [.ref (w.2.2 38), P_z ((pl + 1) - 1)] [] _ _ from ?_)
        refine P_aw_op (L' := [.ref (w.2.2 38), P_z ((pl + 1) - 1)]) (st' := [.ref (w.2.2 38)]) P_i178_10 rfl (show P_aw _ _ _ 11 [.ref (w.2.2 38), P_z ((pl + 1) - 1)] [.ref (w.2.2 38)] _ _ from ?_)
        refine P_aw_op (L' := [.ref (w.2.2 38), P_z ((pl + 1) - 1)]) (st' := [P_z ((pl + 1) - 1), .ref (w.2.2 38)]) P_i178_11 rfl (show P_aw _ _ _ 12 [.ref (w.2.2 38), P_z ((pl + 1) - 1)] [P_z ((pl + 1) - 1), .ref (w.2.2 38)] _ _ from ?_)
        refine P_aw_aldv P_i178_12 (hw.2.1 38 (by decide)) (hw.s rfl) (by omega) (by omega) (by decide) ((P_u2_ne (by omega))) (show P_aw _ _ _ 13 [.ref (w.2.2 38), P_z ((pl + 1) - 1)] [P_z (σ 38 ((pl + 1) - 1).toNat)] _ _ from ?_)
        refine P_aw_goto P_i178_13 (show P_aw _ _ _ 17 [.ref (w.2.2 38), P_z ((pl + 1) - 1)] [P_z (σ 38 ((pl + 1) - 1).toNat)] _ _ from ?_)
        refine P_aw_end P_i178_17 rfl rfl (fun _ => rfl) rfl ?_
        show P_aw _ _ _ 20 [.ref (w.2.2 31), P_z (pl + 1)] [P_z (σ 38 ((pl + 1) - 1).toNat)] _ _
        refine P_aw_goto P_i6_20 (show P_aw _ _ _ 27 [.ref (w.2.2 31), P_z (pl + 1)] [P_z (σ 38 ((pl + 1) - 1).toNat)] _ _ from ?_)
        refine P_aw_end P_i6_27 rfl rfl (fun _ => rfl) rfl ?_
        show P_aw _ _ _ 44 [.ref (w.2.2 44), .ref (w.2.2 31), P_z 1] [P_z (σ 38 ((pl + 1) - 1).toNat), .ref (w.2.2 44)] _ _
        refine P_aw_goto P_i88_44 (show P_aw _ _ _ 51 [.ref (w.2.2 44), .ref (w.2.2 31), P_z 1] [P_z (σ 38 ((pl + 1) - 1).toNat), .ref (w.2.2 44)] _ _ from ?_)
        refine P_aw_put P_i88_51 hw.2.2 (hw.s rfl) rfl rfl rfl (show P_aw _ _ _ 54 [.ref (w.2.2 44), .ref (w.2.2 31), P_z 1] [] _ _ from ?_)
        refine P_aw_op (L' := [.ref (w.2.2 44), .ref (w.2.2 31), P_z 1]) (st' := [.ref (w.2.2 44)]) P_i88_54 rfl (show P_aw _ _ _ 55 [.ref (w.2.2 44), .ref (w.2.2 31), P_z 1] [.ref (w.2.2 44)] _ _ from ?_)
        refine P_aw_op (L' := [.ref (w.2.2 44), .ref (w.2.2 31), P_z 1]) (st' := [P_z 1, .ref (w.2.2 44)]) P_i88_55 rfl (show P_aw _ _ _ 56 [.ref (w.2.2 44), .ref (w.2.2 31), P_z 1] [P_z 1, .ref (w.2.2 44)] _ _ from ?_)
        refine P_aw_izf P_i88_56 ⟨by decide, by decide⟩ (P_ci_eqf (by omega)) (show P_aw _ _ _ 59 [.ref (w.2.2 44), .ref (w.2.2 31), P_z 1] [.ref (w.2.2 44)] _ _ from ?_)
        refine P_aw_op (L' := [.ref (w.2.2 44), .ref (w.2.2 31), P_z 1]) (st' := [.ref (w.2.2 31), .ref (w.2.2 44)]) P_i88_59 rfl (show P_aw _ _ _ 60 [.ref (w.2.2 44), .ref (w.2.2 31), P_z 1] [.ref (w.2.2 31), .ref (w.2.2 44)] _ _ from ?_)
        refine P_aw_op (L' := [.ref (w.2.2 44), .ref (w.2.2 31), P_z 1]) (st' := [.ref (w.2.2 44), .ref (w.2.2 31), .ref (w.2.2 44)]) P_i88_60 rfl (show P_aw _ _ _ 61 [.ref (w.2.2 44), .ref (w.2.2 31), P_z 1] [.ref (w.2.2 44), .ref (w.2.2 31), .ref (w.2.2 44)] _ _ from ?_)
        refine P_aw_getv P_i88_61 hw.2.2 (hw.s rfl) rfl rfl ((P_u2_ne (by omega)).trans (P_u2_at)) (show P_aw _ _ _ 64 [.ref (w.2.2 44), .ref (w.2.2 31), P_z 1] [P_z (pl + 1), .ref (w.2.2 31), .ref (w.2.2 44)] _ _ from ?_)
        refine P_aw_call P_i88_64 rfl rfl (fun _ => rfl) rfl rfl rfl rfl (y2 := 7) (as := [.ref (w.2.2 31), P_z (pl + 1)]) (r0 := [.ref (w.2.2 44)]) (P_inv_v (hw.2.1 31 (by decide)) (hw.s rfl) rfl rfl) (Nat.le_of_ble_eq_true rfl) (by decide) rfl (Nat.le_of_ble_eq_true rfl) (show P_aw _ _ _ 0 [.ref (w.2.2 31), P_z (pl + 1)] [] _ _ from ?_)
        refine P_aw_op (L' := [.ref (w.2.2 31), P_z (pl + 1)]) (st' := [.ref (w.2.2 31)]) P_i7_0 rfl (show P_aw _ _ _ 1 [.ref (w.2.2 31), P_z (pl + 1)] [.ref (w.2.2 31)] _ _ from ?_)
        refine P_aw_getR P_i7_1 (hw.2.1 31 (by decide)) (hw.s rfl) rfl rfl (show P_aw _ _ _ 4 [.ref (w.2.2 31), P_z (pl + 1)] [.ref (w.2.2 6)] _ _ from ?_)
        refine P_aw_call P_i7_4 rfl rfl (fun _ => rfl) rfl rfl rfl rfl (y2 := 43) (as := [.ref (w.2.2 6)]) (r0 := []) (P_inv_v (hw.2.1 6 (by decide)) (hw.s rfl) rfl rfl) (Nat.le_of_ble_eq_true rfl) (by decide) rfl (Nat.le_of_ble_eq_true rfl) (show P_aw _ _ _ 0 [.ref (w.2.2 6)] [] _ _ from ?_)
        refine P_aw_op (L' := [.ref (w.2.2 6)]) (st' := [.ref (w.2.2 6)]) P_i43_0 rfl (show P_aw _ _ _ 1 [.ref (w.2.2 6)] [.ref (w.2.2 6)] _ _ from ?_)
        have hg7 := hF.2.2.2.2.2.2.1
        have hg8 := hF.2.1
        refine P_aw_getv P_i43_1 (hw.2.1 6 (by decide)) (hw.s rfl) rfl rfl ((P_u2_ne (by omega)).trans ((P_u2_ne (by omega)).trans (hF.2.2.2.2.2.1))) (show P_aw _ _ _ 4 [.ref (w.2.2 6)] [P_z oi] _ _ from ?_)
        refine P_aw_op (L' := [.ref (w.2.2 6)]) (st' := [P_z (-1), P_z oi]) P_i43_4 rfl (show P_aw _ _ _ 5 [.ref (w.2.2 6)] [P_z (-1), P_z oi] _ _ from ?_)
        refine P_aw_icf P_i43_5 ⟨by omega, by omega⟩ ⟨by decide, by decide⟩ (P_ci_nef (by omega)) (show P_aw _ _ _ 8 [.ref (w.2.2 6)] [] _ _ from ?_)
        refine P_aw_op (L' := [.ref (w.2.2 6)]) (st' := [.ref (w.2.2 6)]) P_i43_8 rfl (show P_aw _ _ _ 9 [.ref (w.2.2 6)] [.ref (w.2.2 6)] _ _ from ?_)
        have hp9 := A_gth_rg (ki := ki) (it := it) (gp := gp)
        refine P_aw_call P_i43_9 rfl rfl (fun _ => rfl) rfl rfl rfl rfl (y2 := 42) (as := [.ref (w.2.2 6)]) (r0 := []) (P_inv_v (hw.2.1 6 (by decide)) (hw.s rfl) rfl rfl) (Nat.le_of_ble_eq_true rfl) (by decide) rfl (Nat.le_of_ble_eq_true rfl) (s_gth hw (A_F_cg (fun a b h h2 => ((P_u2_ne (by omega))).trans ((P_u2_ne (by omega)))) hF) ?_)
        show P_aw _ _ _ 12 [.ref (w.2.2 6)] [P_z (A_gth ki it gp)] _ _
        refine P_aw_izf P_i43_12 ⟨by omega, by omega⟩ (P_ci_nef (by omega)) (show P_aw _ _ _ 15 [.ref (w.2.2 6)] [] _ _ from ?_)
        refine P_aw_op (L' := [.ref (w.2.2 6)]) (st' := [P_z 1]) P_i43_15 rfl (show P_aw _ _ _ 16 [.ref (w.2.2 6)] [P_z 1] _ _ from ?_)
        refine P_aw_goto P_i43_16 (show P_aw _ _ _ 20 [.ref (w.2.2 6)] [P_z 1] _ _ from ?_)
        refine P_aw_end P_i43_20 rfl rfl (fun _ => rfl) rfl ?_
        show P_aw _ _ _ 7 [.ref (w.2.2 31), P_z (pl + 1)] [P_z 1] _ _
        refine P_aw_izf P_i7_7 ⟨by decide, by decide⟩ (P_ci_eqf (by omega)) (show P_aw _ _ _ 10 [.ref (w.2.2 31), P_z (pl + 1)] [] _ _ from ?_)
        refine P_aw_op (L' := [.ref (w.2.2 31), P_z (pl + 1)]) (st' := [.ref (w.2.2 31)]) P_i7_10 rfl (show P_aw _ _ _ 11 [.ref (w.2.2 31), P_z (pl + 1)] [.ref (w.2.2 31)] _ _ from ?_)
        refine P_aw_getR P_i7_11 (hw.2.1 31 (by decide)) (hw.s rfl) rfl rfl (show P_aw _ _ _ 14 [.ref (w.2.2 31), P_z (pl + 1)] [.ref (w.2.2 39)] _ _ from ?_)
        refine P_aw_op (L' := [.ref (w.2.2 31), P_z (pl + 1)]) (st' := [P_z (pl + 1), .ref (w.2.2 39)]) P_i7_14 rfl (show P_aw _ _ _ 15 [.ref (w.2.2 31), P_z (pl + 1)] [P_z (pl + 1), .ref (w.2.2 39)] _ _ from ?_)
        refine P_aw_op (L' := [.ref (w.2.2 31), P_z (pl + 1)]) (st' := [P_z 1, P_z (pl + 1), .ref (w.2.2 39)]) P_i7_15 rfl (show P_aw _ _ _ 16 [.ref (w.2.2 31), P_z (pl + 1)] [P_z 1, P_z (pl + 1), .ref (w.2.2 39)] _ _ from ?_)
        refine P_aw_op (L' := [.ref (w.2.2 31), P_z (pl + 1)]) (st' := [P_z ((pl + 1) - 1), .ref (w.2.2 39)]) P_i7_16 P_o_isub (show P_aw _ _ _ 17 [.ref (w.2.2 31), P_z (pl + 1)] [P_z ((pl + 1) - 1), .ref (w.2.2 39)] _ _ from ?_)
        refine P_aw_call P_i7_17 rfl rfl (fun _ => rfl) rfl rfl rfl rfl (y2 := 178) (as := [.ref (w.2.2 39), P_z ((pl + 1) - 1)]) (r0 := []) (fun _ _ => rfl) (Nat.le_of_ble_eq_true rfl) (by decide) rfl (Nat.le_of_ble_eq_true rfl) (show P_aw _ _ _ 0 [.ref (w.2.2 39), P_z ((pl + 1) - 1)] [] _ _ from ?_)
        refine P_aw_op (L' := [.ref (w.2.2 39), P_z ((pl + 1) - 1)]) (st' := [P_z ((pl + 1) - 1)]) P_i178_0 rfl (show P_aw _ _ _ 1 [.ref (w.2.2 39), P_z ((pl + 1) - 1)] [P_z ((pl + 1) - 1)] _ _ from ?_)
        refine P_aw_izf P_i178_1 ⟨by omega, by omega⟩ (P_ci_ltf (by omega)) (show P_aw _ _ _ 4 [.ref (w.2.2 39), P_z ((pl + 1) - 1)] [] _ _ from ?_)
        refine P_aw_op (L' := [.ref (w.2.2 39), P_z ((pl + 1) - 1)]) (st' := [P_z ((pl + 1) - 1)]) P_i178_4 rfl (show P_aw _ _ _ 5 [.ref (w.2.2 39), P_z ((pl + 1) - 1)] [P_z ((pl + 1) - 1)] _ _ from ?_)
        refine P_aw_op (L' := [.ref (w.2.2 39), P_z ((pl + 1) - 1)]) (st' := [.ref (w.2.2 39), P_z ((pl + 1) - 1)]) P_i178_5 rfl (show P_aw _ _ _ 6 [.ref (w.2.2 39), P_z ((pl + 1) - 1)] [.ref (w.2.2 39), P_z ((pl + 1) - 1)] _ _ from ?_)
        refine P_aw_alen P_i178_6 (hw.2.1 39 (by decide)) (hw.s rfl) (show P_aw _ _ _ 7 [.ref (w.2.2 39), P_z ((pl + 1) - 1)] [P_z 2744, P_z ((pl + 1) - 1)] _ _ from ?_)
        refine P_aw_icf P_i178_7 ⟨by omega, by omega⟩ ⟨by decide, by decide⟩ (P_ci_gef (by omega)) (show P_aw _ _ _ 10 [.ref (w.2.2 39), P_z ((pl + 1) - 1)] [] _ _ from ?_)
        refine P_aw_op (L' := [.ref (w.2.2 39), P_z ((pl + 1) - 1)]) (st' := [.ref (w.2.2 39)]) P_i178_10 rfl (show P_aw _ _ _ 11 [.ref (w.2.2 39), P_z ((pl + 1) - 1)] [.ref (w.2.2 39)] _ _ from ?_)
        refine P_aw_op (L' := [.ref (w.2.2 39), P_z ((pl + 1) - 1)]) (st' := [P_z ((pl + 1) - 1), .ref (w.2.2 39)]) P_i178_11 rfl (show P_aw _ _ _ 12 [.ref (w.2.2 39), P_z ((pl + 1) - 1)] [P_z ((pl + 1) - 1), .ref (w.2.2 39)] _ _ from ?_)
        refine P_aw_aldv P_i178_12 (hw.2.1 39 (by decide)) (hw.s rfl) (by omega) (by omega) (by decide) ((P_u2_ne (by omega)).trans ((P_u2_ne (by omega)))) (show P_aw _ _ _ 13 [.ref (w.2.2 39), P_z ((pl + 1) - 1)] [P_z (σ 39 ((pl + 1) - 1).toNat)] _ _ from ?_)
        refine P_aw_goto P_i178_13 (show P_aw _ _ _ 17 [.ref (w.2.2 39), P_z ((pl + 1) - 1)] [P_z (σ 39 ((pl + 1) - 1).toNat)] _ _ from ?_)
        refine P_aw_end P_i178_17 rfl rfl (fun _ => rfl) rfl ?_
        show P_aw _ _ _ 20 [.ref (w.2.2 31), P_z (pl + 1)] [P_z (σ 39 ((pl + 1) - 1).toNat)] _ _
        refine P_aw_goto P_i7_20 (show P_aw _ _ _ 27 [.ref (w.2.2 31), P_z (pl + 1)] [P_z (σ 39 ((pl + 1) - 1).toNat)] _ _ from ?_)
        refine P_aw_end P_i7_27 rfl rfl (fun _ => rfl) rfl ?_
        show P_aw _ _ _ 67 [.ref (w.2.2 44), .ref (w.2.2 31), P_z 1] [P_z (σ 39 ((pl + 1) - 1).toNat), .ref (w.2.2 44)] _ _
        refine P_aw_goto P_i88_67 (show P_aw _ _ _ 74 [.ref (w.2.2 44), .ref (w.2.2 31), P_z 1] [P_z (σ 39 ((pl + 1) - 1).toNat), .ref (w.2.2 44)] _ _ from ?_)
        refine P_aw_put P_i88_74 hw.2.2 (hw.s rfl) rfl rfl rfl (show P_aw _ _ _ 77 [.ref (w.2.2 44), .ref (w.2.2 31), P_z 1] [] _ _ from ?_)
        refine P_aw_op (L' := [.ref (w.2.2 44), .ref (w.2.2 31), P_z 1]) (st' := [P_z 1]) P_i88_77 rfl (show P_aw _ _ _ 78 [.ref (w.2.2 44), .ref (w.2.2 31), P_z 1] [P_z 1] _ _ from ?_)
        refine P_aw_end P_i88_78 rfl rfl (fun _ => rfl) rfl ?_
        exact q1 (by omega) _ (fun a b h => (P_u2_ne (by omega)).trans ((P_u2_ne (by omega)).trans (P_u2_ne (by omega)))) ((P_u2_ne (by omega)).trans ((P_u2_ne (by omega)).trans ((P_u2_ne (by omega)).trans hp0))) ((P_u2_ne (by omega)).trans ((P_u2_ne (by omega)).trans P_u2_at)) (by rw [P_u2_ne (by omega), P_u2_at]; have hh := (hkP (by omega) pl.toNat (by omega)).1; rw [show (pl + 1 - 1).toNat = pl.toNat by omega]; omega) (by rw [P_u2_at]; have hh := (hkP (by omega) pl.toNat (by omega)).2; rw [show (pl + 1 - 1).toNat = pl.toNat by omega]; omega)
      · refine P_aw_izt P_i43_12 ⟨by omega, by omega⟩ (P_ci_net (by omega)) (show P_aw _ _ _ 19 [.ref (w.2.2 6)] [] _ _ from ?_)
        refine P_aw_op (L' := [.ref (w.2.2 6)]) (st' := [P_z 0]) P_i43_19 rfl (show P_aw _ _ _ 20 [.ref (w.2.2 6)] [P_z 0] _ _ from ?_)
        refine P_aw_end P_i43_20 rfl rfl (fun _ => rfl) rfl ?_
        show P_aw _ _ _ 7 [.ref (w.2.2 31), P_z (pl + 1)] [P_z 0] _ _
        refine P_aw_izt P_i6_7 ⟨by decide, by decide⟩ (P_ci_eqt (by omega)) (show P_aw _ _ _ 23 [.ref (w.2.2 31), P_z (pl + 1)] [] _ _ from ?_)
        refine P_aw_op (L' := [.ref (w.2.2 31), P_z (pl + 1)]) (st' := [.ref (w.2.2 31)]) P_i6_23 rfl (show P_aw _ _ _ 24 [.ref (w.2.2 31), P_z (pl + 1)] [.ref (w.2.2 31)] _ _ from ?_)
        refine P_aw_call P_i6_24 rfl rfl (fun _ => rfl) rfl rfl rfl rfl (y2 := 129) (as := [.ref (w.2.2 31)]) (r0 := []) (P_inv_v (hw.2.1 31 (by decide)) (hw.s rfl) rfl rfl) (Nat.le_of_ble_eq_true rfl) (by decide) rfl (Nat.le_of_ble_eq_true rfl) (show P_aw _ _ _ 0 [.ref (w.2.2 31)] [] _ _ from ?_)
        refine P_aw_op (L' := [.ref (w.2.2 31)]) (st' := [.ref (w.2.2 31)]) P_i129_0 rfl (show P_aw _ _ _ 1 [.ref (w.2.2 31)] [.ref (w.2.2 31)] _ _ from ?_)
        refine P_aw_getv P_i129_1 (hw.2.1 31 (by decide)) (hw.s rfl) rfl rfl ((P_u2_ne (by omega)).trans (hk5)) (show P_aw _ _ _ 4 [.ref (w.2.2 31)] [P_z rd] _ _ from ?_)
        refine P_aw_end P_i129_4 rfl rfl (fun _ => rfl) rfl ?_
        show P_aw _ _ _ 27 [.ref (w.2.2 31), P_z (pl + 1)] [P_z rd] _ _
        refine P_aw_end P_i6_27 rfl rfl (fun _ => rfl) rfl ?_
        show P_aw _ _ _ 44 [.ref (w.2.2 44), .ref (w.2.2 31), P_z 1] [P_z rd, .ref (w.2.2 44)] _ _
        refine P_aw_goto P_i88_44 (show P_aw _ _ _ 51 [.ref (w.2.2 44), .ref (w.2.2 31), P_z 1] [P_z rd, .ref (w.2.2 44)] _ _ from ?_)
        refine P_aw_put P_i88_51 hw.2.2 (hw.s rfl) rfl rfl rfl (show P_aw _ _ _ 54 [.ref (w.2.2 44), .ref (w.2.2 31), P_z 1] [] _ _ from ?_)
        refine P_aw_op (L' := [.ref (w.2.2 44), .ref (w.2.2 31), P_z 1]) (st' := [.ref (w.2.2 44)]) P_i88_54 rfl (show P_aw _ _ _ 55 [.ref (w.2.2 44), .ref (w.2.2 31), P_z 1] [.ref (w.2.2 44)] _ _ from ?_)
        refine P_aw_op (L' := [.ref (w.2.2 44), .ref (w.2.2 31), P_z 1]) (st' := [P_z 1, .ref (w.2.2 44)]) P_i88_55 rfl (show P_aw _ _ _ 56 [.ref (w.2.2 44), .ref (w.2.2 31), P_z 1] [P_z 1, .ref (w.2.2 44)] _ _ from ?_)
        refine P_aw_izf P_i88_56 ⟨by decide, by decide⟩ (P_ci_eqf (by omega)) (show P_aw _ _ _ 59 [.ref (w.2.2 44), .ref (w.2.2 31), P_z 1] [.ref (w.2.2 44)] _ _ from ?_)
        refine P_aw_op (L' := [.ref (w.2.2 44), .ref (w.2.2 31), P_z 1]) (st' := [.ref (w.2.2 31), .ref (w.2.2 44)]) P_i88_59 rfl (show P_aw _ _ _ 60 [.ref (w.2.2 44), .ref (w.2.2 31), P_z 1] [.ref (w.2.2 31), .ref (w.2.2 44)] _ _ from ?_)
        refine P_aw_op (L' := [.ref (w.2.2 44), .ref (w.2.2 31), P_z 1]) (st' := [.ref (w.2.2 44), .ref (w.2.2 31), .ref (w.2.2 44)]) P_i88_60 rfl (show P_aw _ _ _ 61 [.ref (w.2.2 44), .ref (w.2.2 31), P_z 1] [.ref (w.2.2 44), .ref (w.2.2 31), .ref (w.2.2 44)] _ _ from ?_)
        refine P_aw_getv P_i88_61 hw.2.2 (hw.s rfl) rfl rfl ((P_u2_ne (by omega)).trans (P_u2_at)) (show P_aw _ _ _ 64 [.ref (w.2.2 44), .ref (w.2.2 31), P_z 1] [P_z (pl + 1), .ref (w.2.2 31), .ref (w.2.2 44)] _ _ from ?_)
        refine P_aw_call P_i88_64 rfl rfl (fun _ => rfl) rfl rfl rfl rfl (y2 := 7) (as := [.ref (w.2.2 31), P_z (pl + 1)]) (r0 := [.ref (w.2.2 44)]) (P_inv_v (hw.2.1 31 (by decide)) (hw.s rfl) rfl rfl) (Nat.le_of_ble_eq_true rfl) (by decide) rfl (Nat.le_of_ble_eq_true rfl) (show P_aw _ _ _ 0 [.ref (w.2.2 31), P_z (pl + 1)] [] _ _ from ?_)
        refine P_aw_op (L' := [.ref (w.2.2 31), P_z (pl + 1)]) (st' := [.ref (w.2.2 31)]) P_i7_0 rfl (show P_aw _ _ _ 1 [.ref (w.2.2 31), P_z (pl + 1)] [.ref (w.2.2 31)] _ _ from ?_)
        refine P_aw_getR P_i7_1 (hw.2.1 31 (by decide)) (hw.s rfl) rfl rfl (show P_aw _ _ _ 4 [.ref (w.2.2 31), P_z (pl + 1)] [.ref (w.2.2 6)] _ _ from ?_)
        refine P_aw_call P_i7_4 rfl rfl (fun _ => rfl) rfl rfl rfl rfl (y2 := 43) (as := [.ref (w.2.2 6)]) (r0 := []) (P_inv_v (hw.2.1 6 (by decide)) (hw.s rfl) rfl rfl) (Nat.le_of_ble_eq_true rfl) (by decide) rfl (Nat.le_of_ble_eq_true rfl) (show P_aw _ _ _ 0 [.ref (w.2.2 6)] [] _ _ from ?_)
        refine P_aw_op (L' := [.ref (w.2.2 6)]) (st' := [.ref (w.2.2 6)]) P_i43_0 rfl (show P_aw _ _ _ 1 [.ref (w.2.2 6)] [.ref (w.2.2 6)] _ _ from ?_)
        have hg7 := hF.2.2.2.2.2.2.1
        have hg8 := hF.2.1
        refine P_aw_getv P_i43_1 (hw.2.1 6 (by decide)) (hw.s rfl) rfl rfl ((P_u2_ne (by omega)).trans ((P_u2_ne (by omega)).trans (hF.2.2.2.2.2.1))) (show P_aw _ _ _ 4 [.ref (w.2.2 6)] [P_z oi] _ _ from ?_)
        refine P_aw_op (L' := [.ref (w.2.2 6)]) (st' := [P_z (-1), P_z oi]) P_i43_4 rfl (show P_aw _ _ _ 5 [.ref (w.2.2 6)] [P_z (-1), P_z oi] _ _ from ?_)
        refine P_aw_icf P_i43_5 ⟨by omega, by omega⟩ ⟨by decide, by decide⟩ (P_ci_nef (by omega)) (show P_aw _ _ _ 8 [.ref (w.2.2 6)] [] _ _ from ?_)
        refine P_aw_op (L' := [.ref (w.2.2 6)]) (st' := [.ref (w.2.2 6)]) P_i43_8 rfl (show P_aw _ _ _ 9 [.ref (w.2.2 6)] [.ref (w.2.2 6)] _ _ from ?_)
        have hp9 := A_gth_rg (ki := ki) (it := it) (gp := gp)
        refine P_aw_call P_i43_9 rfl rfl (fun _ => rfl) rfl rfl rfl rfl (y2 := 42) (as := [.ref (w.2.2 6)]) (r0 := []) (P_inv_v (hw.2.1 6 (by decide)) (hw.s rfl) rfl rfl) (Nat.le_of_ble_eq_true rfl) (by decide) rfl (Nat.le_of_ble_eq_true rfl) (s_gth hw (A_F_cg (fun a b h h2 => ((P_u2_ne (by omega))).trans ((P_u2_ne (by omega)))) hF) ?_)
        show P_aw _ _ _ 12 [.ref (w.2.2 6)] [P_z (A_gth ki it gp)] _ _
        refine P_aw_izt P_i43_12 ⟨by omega, by omega⟩ (P_ci_net (by omega)) (show P_aw _ _ _ 19 [.ref (w.2.2 6)] [] _ _ from ?_)
        refine P_aw_op (L' := [.ref (w.2.2 6)]) (st' := [P_z 0]) P_i43_19 rfl (show P_aw _ _ _ 20 [.ref (w.2.2 6)] [P_z 0] _ _ from ?_)
        refine P_aw_end P_i43_20 rfl rfl (fun _ => rfl) rfl ?_
        show P_aw _ _ _ 7 [.ref (w.2.2 31), P_z (pl + 1)] [P_z 0] _ _
        refine P_aw_izt P_i7_7 ⟨by decide, by decide⟩ (P_ci_eqt (by omega)) (show P_aw _ _ _ 23 [.ref (w.2.2 31), P_z (pl + 1)] [] _ _ from ?_)
        refine P_aw_op (L' := [.ref (w.2.2 31), P_z (pl + 1)]) (st' := [.ref (w.2.2 31)]) P_i7_23 rfl (show P_aw _ _ _ 24 [.ref (w.2.2 31), P_z (pl + 1)] [.ref (w.2.2 31)] _ _ from ?_)
        refine P_aw_call P_i7_24 rfl rfl (fun _ => rfl) rfl rfl rfl rfl (y2 := 130) (as := [.ref (w.2.2 31)]) (r0 := []) (P_inv_v (hw.2.1 31 (by decide)) (hw.s rfl) rfl rfl) (Nat.le_of_ble_eq_true rfl) (by decide) rfl (Nat.le_of_ble_eq_true rfl) (show P_aw _ _ _ 0 [.ref (w.2.2 31)] [] _ _ from ?_)
        refine P_aw_op (L' := [.ref (w.2.2 31)]) (st' := [.ref (w.2.2 31)]) P_i130_0 rfl (show P_aw _ _ _ 1 [.ref (w.2.2 31)] [.ref (w.2.2 31)] _ _ from ?_)
        refine P_aw_getv P_i130_1 (hw.2.1 31 (by decide)) (hw.s rfl) rfl rfl ((P_u2_ne (by omega)).trans ((P_u2_ne (by omega)).trans (hk6))) (show P_aw _ _ _ 4 [.ref (w.2.2 31)] [P_z ck] _ _ from ?_)
        refine P_aw_end P_i130_4 rfl rfl (fun _ => rfl) rfl ?_
        show P_aw _ _ _ 27 [.ref (w.2.2 31), P_z (pl + 1)] [P_z ck] _ _
        refine P_aw_end P_i7_27 rfl rfl (fun _ => rfl) rfl ?_
        show P_aw _ _ _ 67 [.ref (w.2.2 44), .ref (w.2.2 31), P_z 1] [P_z ck, .ref (w.2.2 44)] _ _
        refine P_aw_goto P_i88_67 (show P_aw _ _ _ 74 [.ref (w.2.2 44), .ref (w.2.2 31), P_z 1] [P_z ck, .ref (w.2.2 44)] _ _ from ?_)
        refine P_aw_put P_i88_74 hw.2.2 (hw.s rfl) rfl rfl rfl (show P_aw _ _ _ 77 [.ref (w.2.2 44), .ref (w.2.2 31), P_z 1] [] _ _ from ?_)
        refine P_aw_op (L' := [.ref (w.2.2 44), .ref (w.2.2 31), P_z 1]) (st' := [P_z 1]) P_i88_77 rfl (show P_aw _ _ _ 78 [.ref (w.2.2 44), .ref (w.2.2 31), P_z 1] [P_z 1] _ _ from ?_)
        refine P_aw_end P_i88_78 rfl rfl (fun _ => rfl) rfl ?_
        exact q1 (by omega) _ (fun a b h => (P_u2_ne (by omega)).trans ((P_u2_ne (by omega)).trans (P_u2_ne (by omega)))) ((P_u2_ne (by omega)).trans ((P_u2_ne (by omega)).trans ((P_u2_ne (by omega)).trans hp0))) ((P_u2_ne (by omega)).trans ((P_u2_ne (by omega)).trans P_u2_at)) (by rw [P_u2_ne (by omega), P_u2_at]; omega) (by rw [P_u2_at]; omega)
    · refine P_aw_ict P_i43_5 ⟨by omega, by omega⟩ ⟨by decide, by decide⟩ (P_ci_net (by omega)) (show P_aw _ _ _ 19 [.ref (w.2.2 6)] [] _ _ from ?_)
      refine P_aw_op (L' := [.ref (w.2.2 6)]) (st' := [P_z 0]) P_i43_19 rfl (show P_aw _ _ _ 20 [.ref (w.2.2 6)] [P_z 0] _ _ from ?_)
      refine P_aw_end P_i43_20 rfl rfl (fun _ => rfl) rfl ?_
      show P_aw _ _ _ 7 [.ref (w.2.2 31), P_z (pl + 1)] [P_z 0] _ _
      refine P_aw_izt P_i6_7 ⟨by decide, by decide⟩ (P_ci_eqt (by omega)) (show P_aw _ _ _ 23 [.ref (w.2.2 31), P_z (pl + 1)] [] _ _ from ?_)
      refine P_aw_op (L' := [.ref (w.2.2 31), P_z (pl + 1)]) (st' := [.ref (w.2.2 31)]) P_i6_23 rfl (show P_aw _ _ _ 24 [.ref (w.2.2 31), P_z (pl + 1)] [.ref (w.2.2 31)] _ _ from ?_)
      refine P_aw_call P_i6_24 rfl rfl (fun _ => rfl) rfl rfl rfl rfl (y2 := 129) (as := [.ref (w.2.2 31)]) (r0 := []) (P_inv_v (hw.2.1 31 (by decide)) (hw.s rfl) rfl rfl) (Nat.le_of_ble_eq_true rfl) (by decide) rfl (Nat.le_of_ble_eq_true rfl) (show P_aw _ _ _ 0 [.ref (w.2.2 31)] [] _ _ from ?_)
      refine P_aw_op (L' := [.ref (w.2.2 31)]) (st' := [.ref (w.2.2 31)]) P_i129_0 rfl (show P_aw _ _ _ 1 [.ref (w.2.2 31)] [.ref (w.2.2 31)] _ _ from ?_)
      refine P_aw_getv P_i129_1 (hw.2.1 31 (by decide)) (hw.s rfl) rfl rfl ((P_u2_ne (by omega)).trans (hk5)) (show P_aw _ _ _ 4 [.ref (w.2.2 31)] [P_z rd] _ _ from ?_)
      refine P_aw_end P_i129_4 rfl rfl (fun _ => rfl) rfl ?_
      show P_aw _ _ _ 27 [.ref (w.2.2 31), P_z (pl + 1)] [P_z rd] _ _
      refine P_aw_end P_i6_27 rfl rfl (fun _ => rfl) rfl ?_
      show P_aw _ _ _ 44 [.ref (w.2.2 44), .ref (w.2.2 31), P_z 1] [P_z rd, .ref (w.2.2 44)] _ _
      refine P_aw_goto P_i88_44 (show P_aw _ _ _ 51 [.ref (w.2.2 44), .ref (w.2.2 31), P_z 1] [P_z rd, .ref (w.2.2 44)] _ _ from ?_)
      refine P_aw_put P_i88_51 hw.2.2 (hw.s rfl) rfl rfl rfl (show P_aw _ _ _ 54 [.ref (w.2.2 44), .ref (w.2.2 31), P_z 1] [] _ _ from ?_)
      refine P_aw_op (L' := [.ref (w.2.2 44), .ref (w.2.2 31), P_z 1]) (st' := [.ref (w.2.2 44)]) P_i88_54 rfl (show P_aw _ _ _ 55 [.ref (w.2.2 44), .ref (w.2.2 31), P_z 1] [.ref (w.2.2 44)] _ _ from ?_)
      refine P_aw_op (L' := [.ref (w.2.2 44), .ref (w.2.2 31), P_z 1]) (st' := [P_z 1, .ref (w.2.2 44)]) P_i88_55 rfl (show P_aw _ _ _ 56 [.ref (w.2.2 44), .ref (w.2.2 31), P_z 1] [P_z 1, .ref (w.2.2 44)] _ _ from ?_)
      refine P_aw_izf P_i88_56 ⟨by decide, by decide⟩ (P_ci_eqf (by omega)) (show P_aw _ _ _ 59 [.ref (w.2.2 44), .ref (w.2.2 31), P_z 1] [.ref (w.2.2 44)] _ _ from ?_)
      refine P_aw_op (L' := [.ref (w.2.2 44), .ref (w.2.2 31), P_z 1]) (st' := [.ref (w.2.2 31), .ref (w.2.2 44)]) P_i88_59 rfl (show P_aw _ _ _ 60 [.ref (w.2.2 44), .ref (w.2.2 31), P_z 1] [.ref (w.2.2 31), .ref (w.2.2 44)] _ _ from ?_)
      refine P_aw_op (L' := [.ref (w.2.2 44), .ref (w.2.2 31), P_z 1]) (st' := [.ref (w.2.2 44), .ref (w.2.2 31), .ref (w.2.2 44)]) P_i88_60 rfl (show P_aw _ _ _ 61 [.ref (w.2.2 44), .ref (w.2.2 31), P_z 1] [.ref (w.2.2 44), .ref (w.2.2 31), .ref (w.2.2 44)] _ _ from ?_)
      refine P_aw_getv P_i88_61 hw.2.2 (hw.s rfl) rfl rfl ((P_u2_ne (by omega)).trans (P_u2_at)) (show P_aw _ _ _ 64 [.ref (w.2.2 44), .ref (w.2.2 31), P_z 1] [P_z (pl + 1), .ref (w.2.2 31), .ref (w.2.2 44)] _ _ from ?_)
      refine P_aw_call P_i88_64 rfl rfl (fun _ => rfl) rfl rfl rfl rfl (y2 := 7) (as := [.ref (w.2.2 31), P_z (pl + 1)]) (r0 := [.ref (w.2.2 44)]) (P_inv_v (hw.2.1 31 (by decide)) (hw.s rfl) rfl rfl) (Nat.le_of_ble_eq_true rfl) (by decide) rfl (Nat.le_of_ble_eq_true rfl) (show P_aw _ _ _ 0 [.ref (w.2.2 31), P_z (pl + 1)] [] _ _ from ?_)
      refine P_aw_op (L' := [.ref (w.2.2 31), P_z (pl + 1)]) (st' := [.ref (w.2.2 31)]) P_i7_0 rfl (show P_aw _ _ _ 1 [.ref (w.2.2 31), P_z (pl + 1)] [.ref (w.2.2 31)] _ _ from ?_)
      refine P_aw_getR P_i7_1 (hw.2.1 31 (by decide)) (hw.s rfl) rfl rfl (show P_aw _ _ _ 4 [.ref (w.2.2 31), P_z (pl + 1)] [.ref (w.2.2 6)] _ _ from ?_)
      refine P_aw_call P_i7_4 rfl rfl (fun _ => rfl) rfl rfl rfl rfl (y2 := 43) (as := [.ref (w.2.2 6)]) (r0 := []) (P_inv_v (hw.2.1 6 (by decide)) (hw.s rfl) rfl rfl) (Nat.le_of_ble_eq_true rfl) (by decide) rfl (Nat.le_of_ble_eq_true rfl) (show P_aw _ _ _ 0 [.ref (w.2.2 6)] [] _ _ from ?_)
      refine P_aw_op (L' := [.ref (w.2.2 6)]) (st' := [.ref (w.2.2 6)]) P_i43_0 rfl (show P_aw _ _ _ 1 [.ref (w.2.2 6)] [.ref (w.2.2 6)] _ _ from ?_)
      have hg5 := hF.2.2.2.2.2.2.1
      have hg6 := hF.2.1
      refine P_aw_getv P_i43_1 (hw.2.1 6 (by decide)) (hw.s rfl) rfl rfl ((P_u2_ne (by omega)).trans ((P_u2_ne (by omega)).trans (hF.2.2.2.2.2.1))) (show P_aw _ _ _ 4 [.ref (w.2.2 6)] [P_z oi] _ _ from ?_)
      refine P_aw_op (L' := [.ref (w.2.2 6)]) (st' := [P_z (-1), P_z oi]) P_i43_4 rfl (show P_aw _ _ _ 5 [.ref (w.2.2 6)] [P_z (-1), P_z oi] _ _ from ?_)
      refine P_aw_ict P_i43_5 ⟨by omega, by omega⟩ ⟨by decide, by decide⟩ (P_ci_net (by omega)) (show P_aw _ _ _ 19 [.ref (w.2.2 6)] [] _ _ from ?_)
      refine P_aw_op (L' := [.ref (w.2.2 6)]) (st' := [P_z 0]) P_i43_19 rfl (show P_aw _ _ _ 20 [.ref (w.2.2 6)] [P_z 0] _ _ from ?_)
      refine P_aw_end P_i43_20 rfl rfl (fun _ => rfl) rfl ?_
      show P_aw _ _ _ 7 [.ref (w.2.2 31), P_z (pl + 1)] [P_z 0] _ _
      refine P_aw_izt P_i7_7 ⟨by decide, by decide⟩ (P_ci_eqt (by omega)) (show P_aw _ _ _ 23 [.ref (w.2.2 31), P_z (pl + 1)] [] _ _ from ?_)
      refine P_aw_op (L' := [.ref (w.2.2 31), P_z (pl + 1)]) (st' := [.ref (w.2.2 31)]) P_i7_23 rfl (show P_aw _ _ _ 24 [.ref (w.2.2 31), P_z (pl + 1)] [.ref (w.2.2 31)] _ _ from ?_)
      refine P_aw_call P_i7_24 rfl rfl (fun _ => rfl) rfl rfl rfl rfl (y2 := 130) (as := [.ref (w.2.2 31)]) (r0 := []) (P_inv_v (hw.2.1 31 (by decide)) (hw.s rfl) rfl rfl) (Nat.le_of_ble_eq_true rfl) (by decide) rfl (Nat.le_of_ble_eq_true rfl) (show P_aw _ _ _ 0 [.ref (w.2.2 31)] [] _ _ from ?_)
      refine P_aw_op (L' := [.ref (w.2.2 31)]) (st' := [.ref (w.2.2 31)]) P_i130_0 rfl (show P_aw _ _ _ 1 [.ref (w.2.2 31)] [.ref (w.2.2 31)] _ _ from ?_)
      refine P_aw_getv P_i130_1 (hw.2.1 31 (by decide)) (hw.s rfl) rfl rfl ((P_u2_ne (by omega)).trans ((P_u2_ne (by omega)).trans (hk6))) (show P_aw _ _ _ 4 [.ref (w.2.2 31)] [P_z ck] _ _ from ?_)
      refine P_aw_end P_i130_4 rfl rfl (fun _ => rfl) rfl ?_
      show P_aw _ _ _ 27 [.ref (w.2.2 31), P_z (pl + 1)] [P_z ck] _ _
      refine P_aw_end P_i7_27 rfl rfl (fun _ => rfl) rfl ?_
      show P_aw _ _ _ 67 [.ref (w.2.2 44), .ref (w.2.2 31), P_z 1] [P_z ck, .ref (w.2.2 44)] _ _
      refine P_aw_goto P_i88_67 (show P_aw _ _ _ 74 [.ref (w.2.2 44), .ref (w.2.2 31), P_z 1] [P_z ck, .ref (w.2.2 44)] _ _ from ?_)
      refine P_aw_put P_i88_74 hw.2.2 (hw.s rfl) rfl rfl rfl (show P_aw _ _ _ 77 [.ref (w.2.2 44), .ref (w.2.2 31), P_z 1] [] _ _ from ?_)
      refine P_aw_op (L' := [.ref (w.2.2 44), .ref (w.2.2 31), P_z 1]) (st' := [P_z 1]) P_i88_77 rfl (show P_aw _ _ _ 78 [.ref (w.2.2 44), .ref (w.2.2 31), P_z 1] [P_z 1] _ _ from ?_)
      refine P_aw_end P_i88_78 rfl rfl (fun _ => rfl) rfl ?_
      exact q1 (by omega) _ (fun a b h => (P_u2_ne (by omega)).trans ((P_u2_ne (by omega)).trans (P_u2_ne (by omega)))) ((P_u2_ne (by omega)).trans ((P_u2_ne (by omega)).trans ((P_u2_ne (by omega)).trans hp0))) ((P_u2_ne (by omega)).trans ((P_u2_ne (by omega)).trans P_u2_at)) (by rw [P_u2_ne (by omega), P_u2_at]; omega) (by rw [P_u2_at]; omega)
  · refine P_aw_ict P_i88_8 ⟨by omega, by omega⟩ ⟨by omega, by omega⟩ (P_ci_get (by omega)) (show P_aw _ _ _ 15 [.ref (w.2.2 44), .ref (w.2.2 31), P_un] [] _ _ from ?_)
    refine P_aw_op (L' := [.ref (w.2.2 44), .ref (w.2.2 31), P_un]) (st' := [P_z 0]) P_i88_15 rfl (show P_aw _ _ _ 16 [.ref (w.2.2 44), .ref (w.2.2 31), P_un] [P_z 0] _ _ from ?_)
    refine P_aw_op (L' := [.ref (w.2.2 44), .ref (w.2.2 31), P_z 0]) (st' := []) P_i88_16 rfl (show P_aw _ _ _ 17 [.ref (w.2.2 44), .ref (w.2.2 31), P_z 0] [] _ _ from ?_)
    refine P_aw_op (L' := [.ref (w.2.2 44), .ref (w.2.2 31), P_z 0]) (st' := [P_z 0]) P_i88_17 rfl (show P_aw _ _ _ 18 [.ref (w.2.2 44), .ref (w.2.2 31), P_z 0] [P_z 0] _ _ from ?_)
    refine P_aw_izt P_i88_18 ⟨by decide, by decide⟩ (P_ci_eqt (by omega)) (show P_aw _ _ _ 31 [.ref (w.2.2 44), .ref (w.2.2 31), P_z 0] [] _ _ from ?_)
    refine P_aw_op (L' := [.ref (w.2.2 44), .ref (w.2.2 31), P_z 0]) (st' := [.ref (w.2.2 44)]) P_i88_31 rfl (show P_aw _ _ _ 32 [.ref (w.2.2 44), .ref (w.2.2 31), P_z 0] [.ref (w.2.2 44)] _ _ from ?_)
    refine P_aw_op (L' := [.ref (w.2.2 44), .ref (w.2.2 31), P_z 0]) (st' := [P_z 0, .ref (w.2.2 44)]) P_i88_32 rfl (show P_aw _ _ _ 33 [.ref (w.2.2 44), .ref (w.2.2 31), P_z 0] [P_z 0, .ref (w.2.2 44)] _ _ from ?_)
    refine P_aw_izt P_i88_33 ⟨by decide, by decide⟩ (P_ci_eqt (by omega)) (show P_aw _ _ _ 47 [.ref (w.2.2 44), .ref (w.2.2 31), P_z 0] [.ref (w.2.2 44)] _ _ from ?_)
    refine P_aw_op (L' := [.ref (w.2.2 44), .ref (w.2.2 31), P_z 0]) (st' := [.ref (w.2.2 31), .ref (w.2.2 44)]) P_i88_47 rfl (show P_aw _ _ _ 48 [.ref (w.2.2 44), .ref (w.2.2 31), P_z 0] [.ref (w.2.2 31), .ref (w.2.2 44)] _ _ from ?_)
    refine P_aw_call P_i88_48 rfl rfl (fun _ => rfl) rfl rfl rfl rfl (y2 := 129) (as := [.ref (w.2.2 31)]) (r0 := [.ref (w.2.2 44)]) (P_inv_v (hw.2.1 31 (by decide)) (hw.s rfl) rfl rfl) (Nat.le_of_ble_eq_true rfl) (by decide) rfl (Nat.le_of_ble_eq_true rfl) (show P_aw _ _ _ 0 [.ref (w.2.2 31)] [] _ _ from ?_)
    refine P_aw_op (L' := [.ref (w.2.2 31)]) (st' := [.ref (w.2.2 31)]) P_i129_0 rfl (show P_aw _ _ _ 1 [.ref (w.2.2 31)] [.ref (w.2.2 31)] _ _ from ?_)
    refine P_aw_getv P_i129_1 (hw.2.1 31 (by decide)) (hw.s rfl) rfl rfl (hk5) (show P_aw _ _ _ 4 [.ref (w.2.2 31)] [P_z rd] _ _ from ?_)
    refine P_aw_end P_i129_4 rfl rfl (fun _ => rfl) rfl ?_
    show P_aw _ _ _ 51 [.ref (w.2.2 44), .ref (w.2.2 31), P_z 0] [P_z rd, .ref (w.2.2 44)] _ _
    refine P_aw_put P_i88_51 hw.2.2 (hw.s rfl) rfl rfl rfl (show P_aw _ _ _ 54 [.ref (w.2.2 44), .ref (w.2.2 31), P_z 0] [] _ _ from ?_)
    refine P_aw_op (L' := [.ref (w.2.2 44), .ref (w.2.2 31), P_z 0]) (st' := [.ref (w.2.2 44)]) P_i88_54 rfl (show P_aw _ _ _ 55 [.ref (w.2.2 44), .ref (w.2.2 31), P_z 0] [.ref (w.2.2 44)] _ _ from ?_)
    refine P_aw_op (L' := [.ref (w.2.2 44), .ref (w.2.2 31), P_z 0]) (st' := [P_z 0, .ref (w.2.2 44)]) P_i88_55 rfl (show P_aw _ _ _ 56 [.ref (w.2.2 44), .ref (w.2.2 31), P_z 0] [P_z 0, .ref (w.2.2 44)] _ _ from ?_)
    refine P_aw_izt P_i88_56 ⟨by decide, by decide⟩ (P_ci_eqt (by omega)) (show P_aw _ _ _ 70 [.ref (w.2.2 44), .ref (w.2.2 31), P_z 0] [.ref (w.2.2 44)] _ _ from ?_)
    refine P_aw_op (L' := [.ref (w.2.2 44), .ref (w.2.2 31), P_z 0]) (st' := [.ref (w.2.2 31), .ref (w.2.2 44)]) P_i88_70 rfl (show P_aw _ _ _ 71 [.ref (w.2.2 44), .ref (w.2.2 31), P_z 0] [.ref (w.2.2 31), .ref (w.2.2 44)] _ _ from ?_)
    refine P_aw_call P_i88_71 rfl rfl (fun _ => rfl) rfl rfl rfl rfl (y2 := 130) (as := [.ref (w.2.2 31)]) (r0 := [.ref (w.2.2 44)]) (P_inv_v (hw.2.1 31 (by decide)) (hw.s rfl) rfl rfl) (Nat.le_of_ble_eq_true rfl) (by decide) rfl (Nat.le_of_ble_eq_true rfl) (show P_aw _ _ _ 0 [.ref (w.2.2 31)] [] _ _ from ?_)
    refine P_aw_op (L' := [.ref (w.2.2 31)]) (st' := [.ref (w.2.2 31)]) P_i130_0 rfl (show P_aw _ _ _ 1 [.ref (w.2.2 31)] [.ref (w.2.2 31)] _ _ from ?_)
    refine P_aw_getv P_i130_1 (hw.2.1 31 (by decide)) (hw.s rfl) rfl rfl ((P_u2_ne (by omega)).trans (hk6)) (show P_aw _ _ _ 4 [.ref (w.2.2 31)] [P_z ck] _ _ from ?_)
    refine P_aw_end P_i130_4 rfl rfl (fun _ => rfl) rfl ?_
    show P_aw _ _ _ 74 [.ref (w.2.2 44), .ref (w.2.2 31), P_z 0] [P_z ck, .ref (w.2.2 44)] _ _
    refine P_aw_put P_i88_74 hw.2.2 (hw.s rfl) rfl rfl rfl (show P_aw _ _ _ 77 [.ref (w.2.2 44), .ref (w.2.2 31), P_z 0] [] _ _ from ?_)
    refine P_aw_op (L' := [.ref (w.2.2 44), .ref (w.2.2 31), P_z 0]) (st' := [P_z 0]) P_i88_77 rfl (show P_aw _ _ _ 78 [.ref (w.2.2 44), .ref (w.2.2 31), P_z 0] [P_z 0] _ _ from ?_)
    refine P_aw_end P_i88_78 rfl rfl (fun _ => rfl) rfl ?_
    exact q (by omega) _ (fun a b h => (P_u2_ne (by omega)).trans (P_u2_ne (by omega))) ((P_u2_ne (by omega)).trans ((P_u2_ne (by omega)).trans hp0)) ((P_u2_ne (by omega)).trans ((P_u2_ne (by omega)).trans hp1)) ((P_u2_ne (by omega)).trans P_u2_at) P_u2_at

theorem s_nxt1 {w : P_Lw} (hw : P_Cw w) {d : Nat} {Q : P_R → P_A → Prop} {σ : P_A} {ns : Int} {tb : Int → Nat} {rw : Int → Int} {vr : Int → Int → Int} {cl : Int → Int} {V : Int → Int → Int → Int} {cs : List A_cd} {od : Int → Int} {it : Int} {ki ci : Int → Int} {gp oi lm : Int} {nv : Int} (hB : A_B w σ ns tb rw vr cl V cs od it ki ci gp oi lm nv) {rd ck mt : Int} {sz : Nat} (hka : A_ka σ V rw it ki ci gp oi lm rd ck mt sz) {pl : Int} (hp0 : σ 44 0 = 1) (hp1 : σ 44 1 = pl) (hpl : 0 ≤ pl ∧ pl ≤ min ((sz : Nat) : Int) lm) (hrk : 0 ≤ rd ∧ 0 ≤ ck) (q1 : (pl < min ((sz : Nat) : Int) lm → ∀ σ', (∀ a b, a ≠ 44 → σ' a b = σ a b) → σ' 44 0 = 1 → σ' 44 1 = pl + 1 → (0 ≤ σ' 44 2 ∧ σ' 44 2 ≤ rd) → (0 ≤ σ' 44 3 ∧ σ' 44 3 ≤ ck) → Q (.inl (some (P_z 1))) σ')) (q : pl = min ((sz : Nat) : Int) lm → ∀ σ', (∀ a b, a ≠ 44 → σ' a b = σ a b) → σ' 44 0 = 1 → σ' 44 1 = pl → σ' 44 2 = rd → σ' 44 3 = ck → Q (.inl (some (P_z 0))) σ') : P_aw w (d + 10) 155 0 [.ref (w.2.2 0)] [] σ Q := by
  obtain ⟨hA, hX, hF, hK, hO, hok, htk, hN, hn01, hrd1, hfp⟩ := id hB
  have hns := hA.2.1
  have hit := hF.2.1
  have hsz0 := hK.2.1
  obtain ⟨hk16, hk5, hk6, hk15, hkR, hkG, hkS, hkP⟩ := id hka
  have hlm := hF.2.2.2.2.2.2.2.2
  have hsz27 := hkR.2.1
  refine P_aw_op (L' := [.ref (w.2.2 0)]) (st' := [.ref (w.2.2 0)]) P_i155_0 rfl (show P_aw _ _ _ 1 [.ref (w.2.2 0)] [.ref (w.2.2 0)] _ _ from ?_)
  refine P_aw_call P_i155_1 rfl rfl (fun _ => rfl) rfl rfl rfl rfl (y2 := 168) (as := [.ref (w.2.2 0)]) (r0 := []) (P_inv_v (hw.2.1 0 (by decide)) (hw.s rfl) rfl rfl) (Nat.le_of_ble_eq_true rfl) (by decide) rfl (Nat.le_of_ble_eq_true rfl) (show P_aw _ _ _ 0 [.ref (w.2.2 0)] [] _ _ from ?_)
  refine P_aw_op (L' := [.ref (w.2.2 0)]) (st' := [.ref (w.2.2 0)]) P_i168_0 rfl (show P_aw _ _ _ 1 [.ref (w.2.2 0)] [.ref (w.2.2 0)] _ _ from ?_)
  refine P_aw_getR P_i168_1 (hw.2.1 0 (by decide)) (hw.s rfl) rfl rfl (show P_aw _ _ _ 4 [.ref (w.2.2 0)] [.ref (w.2.2 29)] _ _ from ?_)
  refine P_aw_call P_i168_4 rfl rfl (fun _ => rfl) rfl rfl rfl rfl (y2 := 92) (as := [.ref (w.2.2 29)]) (r0 := []) (P_inv_v (hw.2.1 29 (by decide)) (hw.s rfl) rfl rfl) (Nat.le_of_ble_eq_true rfl) (by decide) rfl (Nat.le_of_ble_eq_true rfl) (show P_aw _ _ _ 0 [.ref (w.2.2 29)] [] _ _ from ?_)
  refine P_aw_op (L' := [.ref (w.2.2 29)]) (st' := [.ref (w.2.2 29)]) P_i92_0 rfl (show P_aw _ _ _ 1 [.ref (w.2.2 29)] [.ref (w.2.2 29)] _ _ from ?_)
  refine P_aw_getv P_i92_1 (hw.2.1 29 (by decide)) (hw.s rfl) rfl rfl (hrd1) (show P_aw _ _ _ 4 [.ref (w.2.2 29)] [P_z 1] _ _ from ?_)
  refine P_aw_end P_i92_4 rfl rfl (fun _ => rfl) rfl ?_
  show P_aw _ _ _ 7 [.ref (w.2.2 0)] [P_z 1] _ _
  refine P_aw_izt P_i168_7 ⟨by decide, by decide⟩ (P_ci_net (by omega)) (show P_aw _ _ _ 21 [.ref (w.2.2 0)] [] _ _ from ?_)
  refine P_aw_end P_i168_21 rfl rfl (fun _ => rfl) rfl ?_
  show P_aw _ _ _ 4 [.ref (w.2.2 0)] [] _ _
  refine P_aw_op (L' := [.ref (w.2.2 0)]) (st' := [.ref (w.2.2 0)]) P_i155_4 rfl (show P_aw _ _ _ 5 [.ref (w.2.2 0)] [.ref (w.2.2 0)] _ _ from ?_)
  refine P_aw_getR P_i155_5 (hw.2.1 0 (by decide)) (hw.s rfl) rfl rfl (show P_aw _ _ _ 8 [.ref (w.2.2 0)] [.ref (w.2.2 44)] _ _ from ?_)
  refine P_aw_call P_i155_8 rfl rfl (fun _ => rfl) rfl rfl rfl rfl (y2 := 86) (as := [.ref (w.2.2 44)]) (r0 := []) (P_inv_v hw.2.2 (hw.s rfl) rfl rfl) (Nat.le_of_ble_eq_true rfl) (by decide) rfl (Nat.le_of_ble_eq_true rfl) (show P_aw _ _ _ 0 [.ref (w.2.2 44)] [] _ _ from ?_)
  refine P_aw_op (L' := [.ref (w.2.2 44)]) (st' := [.ref (w.2.2 44)]) P_i86_0 rfl (show P_aw _ _ _ 1 [.ref (w.2.2 44)] [.ref (w.2.2 44)] _ _ from ?_)
  refine P_aw_getv P_i86_1 hw.2.2 (hw.s rfl) rfl rfl (hp0) (show P_aw _ _ _ 4 [.ref (w.2.2 44)] [P_z 1] _ _ from ?_)
  refine P_aw_end P_i86_4 rfl rfl (fun _ => rfl) rfl ?_
  show P_aw _ _ _ 11 [.ref (w.2.2 0)] [P_z 1] _ _
  refine P_aw_izt P_i155_11 ⟨by decide, by decide⟩ (P_ci_net (by omega)) (show P_aw _ _ _ 24 [.ref (w.2.2 0)] [] _ _ from ?_)
  refine P_aw_op (L' := [.ref (w.2.2 0)]) (st' := [.ref (w.2.2 0)]) P_i155_24 rfl (show P_aw _ _ _ 25 [.ref (w.2.2 0)] [.ref (w.2.2 0)] _ _ from ?_)
  refine P_aw_getR P_i155_25 (hw.2.1 0 (by decide)) (hw.s rfl) rfl rfl (show P_aw _ _ _ 28 [.ref (w.2.2 0)] [.ref (w.2.2 31)] _ _ from ?_)
  refine P_aw_call P_i155_28 rfl rfl (fun _ => rfl) rfl rfl rfl rfl (y2 := 3) (as := [.ref (w.2.2 31)]) (r0 := []) (P_inv_v (hw.2.1 31 (by decide)) (hw.s rfl) rfl rfl) (Nat.le_of_ble_eq_true rfl) (by decide) rfl (Nat.le_of_ble_eq_true rfl) (show P_aw _ _ _ 0 [.ref (w.2.2 31)] [] _ _ from ?_)
  refine P_aw_op (L' := [.ref (w.2.2 31)]) (st' := [.ref (w.2.2 31)]) P_i3_0 rfl (show P_aw _ _ _ 1 [.ref (w.2.2 31)] [.ref (w.2.2 31)] _ _ from ?_)
  refine P_aw_getv P_i3_1 (hw.2.1 31 (by decide)) (hw.s rfl) rfl rfl (hk16) (show P_aw _ _ _ 4 [.ref (w.2.2 31)] [P_z 1] _ _ from ?_)
  refine P_aw_izf P_i3_4 ⟨by decide, by decide⟩ (P_ci_eqf (by omega)) (show P_aw _ _ _ 7 [.ref (w.2.2 31)] [] _ _ from ?_)
  refine P_aw_end P_i3_7 rfl rfl (fun _ => rfl) rfl ?_
  show P_aw _ _ _ 31 [.ref (w.2.2 0)] [] _ _
  refine P_aw_op (L' := [.ref (w.2.2 0)]) (st' := [.ref (w.2.2 0)]) P_i155_31 rfl (show P_aw _ _ _ 32 [.ref (w.2.2 0)] [.ref (w.2.2 0)] _ _ from ?_)
  refine P_aw_getR P_i155_32 (hw.2.1 0 (by decide)) (hw.s rfl) rfl rfl (show P_aw _ _ _ 35 [.ref (w.2.2 0)] [.ref (w.2.2 44)] _ _ from ?_)
  refine P_aw_op (L' := [.ref (w.2.2 0)]) (st' := [.ref (w.2.2 0), .ref (w.2.2 44)]) P_i155_35 rfl (show P_aw _ _ _ 36 [.ref (w.2.2 0)] [.ref (w.2.2 0), .ref (w.2.2 44)] _ _ from ?_)
  refine P_aw_getR P_i155_36 (hw.2.1 0 (by decide)) (hw.s rfl) rfl rfl (show P_aw _ _ _ 39 [.ref (w.2.2 0)] [.ref (w.2.2 31), .ref (w.2.2 44)] _ _ from ?_)
  refine P_aw_call P_i155_39 rfl rfl (fun _ => rfl) rfl rfl rfl rfl (y2 := 88) (as := [.ref (w.2.2 44), .ref (w.2.2 31)]) (r0 := []) (P_inv_v hw.2.2 (hw.s rfl) rfl rfl) (Nat.le_of_ble_eq_true rfl) (by decide) rfl (Nat.le_of_ble_eq_true rfl) (s_take hw hB hka hp0 hp1 hpl hrk (fun z1 σ' z2 z3 z4 z5 z6 => ?_) (fun z1 σ' z2 z3 z4 z5 z6 => ?_))
  · skip
    show P_aw _ _ _ 42 [.ref (w.2.2 0)] [P_z 1] _ _
    refine P_aw_end P_i155_42 rfl rfl (fun _ => rfl) rfl ?_
    exact q1 z1 σ' z2 z3 z4 z5 z6
  · skip
    show P_aw _ _ _ 42 [.ref (w.2.2 0)] [P_z 0] _ _
    refine P_aw_end P_i155_42 rfl rfl (fun _ => rfl) rfl ?_
    exact q z1 σ' z2 z3 z4 z5 z6

theorem s_nxt0 {w : P_Lw} (hw : P_Cw w) {d : Nat} {Q : P_R → P_A → Prop} {σ : P_A} {ns : Int} {tb : Int → Nat} {rw : Int → Int} {vr : Int → Int → Int} {cl : Int → Int} {V : Int → Int → Int → Int} {cs : List A_cd} {od : Int → Int} {it : Int} {ki ci : Int → Int} {gp oi lm : Int} {nv : Int} (hB : A_B w σ ns tb rw vr cl V cs od it ki ci gp oi lm nv) (hk16 : σ 31 16 = 0) (hmt : (A_go (A_ms nv oi (A_gth ki it gp) lm) (fun p ρ => A_hl (A_val V rw ρ) p (-1) cs 0) od rw ns.toNat 0 (fun _ => 0, 0, 0, 0)).2.2.2 ≤ 2744) (hp0 : σ 44 0 = 1) (hp1 : σ 44 1 = 0) (q1 : (∀ (σ' : P_A) (sz : Nat), (∀ a b, ¬ (31 ≤ a ∧ a ≤ 41) → a ≠ 44 → σ' a b = σ a b) → (0 ≤ (A_go (A_ms nv oi (A_gth ki it gp) lm) (fun p ρ => A_hl (A_val V rw ρ) p (-1) cs 0) od rw ns.toNat 0 (fun _ => 0, 0, 0, 0)).2.1 ∧ 0 ≤ (A_go (A_ms nv oi (A_gth ki it gp) lm) (fun p ρ => A_hl (A_val V rw ρ) p (-1) cs 0) od rw ns.toNat 0 (fun _ => 0, 0, 0, 0)).2.2.1) → A_ka σ' V rw it ki ci gp oi lm (A_go (A_ms nv oi (A_gth ki it gp) lm) (fun p ρ => A_hl (A_val V rw ρ) p (-1) cs 0) od rw ns.toNat 0 (fun _ => 0, 0, 0, 0)).2.1 (A_go (A_ms nv oi (A_gth ki it gp) lm) (fun p ρ => A_hl (A_val V rw ρ) p (-1) cs 0) od rw ns.toNat 0 (fun _ => 0, 0, 0, 0)).2.2.1 (A_go (A_ms nv oi (A_gth ki it gp) lm) (fun p ρ => A_hl (A_val V rw ρ) p (-1) cs 0) od rw ns.toNat 0 (fun _ => 0, 0, 0, 0)).2.2.2 sz → 0 < min ((sz : Nat) : Int) lm → σ' 44 0 = 1 → σ' 44 1 = 1 → (0 ≤ σ' 44 2 ∧ σ' 44 2 ≤ (A_go (A_ms nv oi (A_gth ki it gp) lm) (fun p ρ => A_hl (A_val V rw ρ) p (-1) cs 0) od rw ns.toNat 0 (fun _ => 0, 0, 0, 0)).2.1) → (0 ≤ σ' 44 3 ∧ σ' 44 3 ≤ (A_go (A_ms nv oi (A_gth ki it gp) lm) (fun p ρ => A_hl (A_val V rw ρ) p (-1) cs 0) od rw ns.toNat 0 (fun _ => 0, 0, 0, 0)).2.2.1) → Q (.inl (some (P_z 1))) σ')) (q : ∀ (σ' : P_A) (sz : Nat), (∀ a b, ¬ (31 ≤ a ∧ a ≤ 41) → a ≠ 44 → σ' a b = σ a b) → (0 ≤ (A_go (A_ms nv oi (A_gth ki it gp) lm) (fun p ρ => A_hl (A_val V rw ρ) p (-1) cs 0) od rw ns.toNat 0 (fun _ => 0, 0, 0, 0)).2.1 ∧ 0 ≤ (A_go (A_ms nv oi (A_gth ki it gp) lm) (fun p ρ => A_hl (A_val V rw ρ) p (-1) cs 0) od rw ns.toNat 0 (fun _ => 0, 0, 0, 0)).2.2.1) → A_ka σ' V rw it ki ci gp oi lm (A_go (A_ms nv oi (A_gth ki it gp) lm) (fun p ρ => A_hl (A_val V rw ρ) p (-1) cs 0) od rw ns.toNat 0 (fun _ => 0, 0, 0, 0)).2.1 (A_go (A_ms nv oi (A_gth ki it gp) lm) (fun p ρ => A_hl (A_val V rw ρ) p (-1) cs 0) od rw ns.toNat 0 (fun _ => 0, 0, 0, 0)).2.2.1 (A_go (A_ms nv oi (A_gth ki it gp) lm) (fun p ρ => A_hl (A_val V rw ρ) p (-1) cs 0) od rw ns.toNat 0 (fun _ => 0, 0, 0, 0)).2.2.2 sz → 0 = min ((sz : Nat) : Int) lm → σ' 44 0 = 1 → σ' 44 1 = 0 → σ' 44 2 = (A_go (A_ms nv oi (A_gth ki it gp) lm) (fun p ρ => A_hl (A_val V rw ρ) p (-1) cs 0) od rw ns.toNat 0 (fun _ => 0, 0, 0, 0)).2.1 → σ' 44 3 = (A_go (A_ms nv oi (A_gth ki it gp) lm) (fun p ρ => A_hl (A_val V rw ρ) p (-1) cs 0) od rw ns.toNat 0 (fun _ => 0, 0, 0, 0)).2.2.1 → Q (.inl (some (P_z 0))) σ') : P_aw w (d + 13) 155 0 [.ref (w.2.2 0)] [] σ Q := by
  obtain ⟨hA, hX, hF, hK, hO, hok, htk, hN, hn01, hrd1, hfp⟩ := id hB
  have hns := hA.2.1
  have hit := hF.2.1
  have hsz0 := hK.2.1
  refine P_aw_op (L' := [.ref (w.2.2 0)]) (st' := [.ref (w.2.2 0)]) P_i155_0 rfl (show P_aw _ _ _ 1 [.ref (w.2.2 0)] [.ref (w.2.2 0)] _ _ from ?_)
  refine P_aw_call P_i155_1 rfl rfl (fun _ => rfl) rfl rfl rfl rfl (y2 := 168) (as := [.ref (w.2.2 0)]) (r0 := []) (P_inv_v (hw.2.1 0 (by decide)) (hw.s rfl) rfl rfl) (Nat.le_of_ble_eq_true rfl) (by decide) rfl (Nat.le_of_ble_eq_true rfl) (show P_aw _ _ _ 0 [.ref (w.2.2 0)] [] _ _ from ?_)
  refine P_aw_op (L' := [.ref (w.2.2 0)]) (st' := [.ref (w.2.2 0)]) P_i168_0 rfl (show P_aw _ _ _ 1 [.ref (w.2.2 0)] [.ref (w.2.2 0)] _ _ from ?_)
  refine P_aw_getR P_i168_1 (hw.2.1 0 (by decide)) (hw.s rfl) rfl rfl (show P_aw _ _ _ 4 [.ref (w.2.2 0)] [.ref (w.2.2 29)] _ _ from ?_)
  refine P_aw_call P_i168_4 rfl rfl (fun _ => rfl) rfl rfl rfl rfl (y2 := 92) (as := [.ref (w.2.2 29)]) (r0 := []) (P_inv_v (hw.2.1 29 (by decide)) (hw.s rfl) rfl rfl) (Nat.le_of_ble_eq_true rfl) (by decide) rfl (Nat.le_of_ble_eq_true rfl) (show P_aw _ _ _ 0 [.ref (w.2.2 29)] [] _ _ from ?_)
  refine P_aw_op (L' := [.ref (w.2.2 29)]) (st' := [.ref (w.2.2 29)]) P_i92_0 rfl (show P_aw _ _ _ 1 [.ref (w.2.2 29)] [.ref (w.2.2 29)] _ _ from ?_)
  refine P_aw_getv P_i92_1 (hw.2.1 29 (by decide)) (hw.s rfl) rfl rfl (hrd1) (show P_aw _ _ _ 4 [.ref (w.2.2 29)] [P_z 1] _ _ from ?_)
  refine P_aw_end P_i92_4 rfl rfl (fun _ => rfl) rfl ?_
  show P_aw _ _ _ 7 [.ref (w.2.2 0)] [P_z 1] _ _
  refine P_aw_izt P_i168_7 ⟨by decide, by decide⟩ (P_ci_net (by omega)) (show P_aw _ _ _ 21 [.ref (w.2.2 0)] [] _ _ from ?_)
  refine P_aw_end P_i168_21 rfl rfl (fun _ => rfl) rfl ?_
  show P_aw _ _ _ 4 [.ref (w.2.2 0)] [] _ _
  refine P_aw_op (L' := [.ref (w.2.2 0)]) (st' := [.ref (w.2.2 0)]) P_i155_4 rfl (show P_aw _ _ _ 5 [.ref (w.2.2 0)] [.ref (w.2.2 0)] _ _ from ?_)
  refine P_aw_getR P_i155_5 (hw.2.1 0 (by decide)) (hw.s rfl) rfl rfl (show P_aw _ _ _ 8 [.ref (w.2.2 0)] [.ref (w.2.2 44)] _ _ from ?_)
  refine P_aw_call P_i155_8 rfl rfl (fun _ => rfl) rfl rfl rfl rfl (y2 := 86) (as := [.ref (w.2.2 44)]) (r0 := []) (P_inv_v hw.2.2 (hw.s rfl) rfl rfl) (Nat.le_of_ble_eq_true rfl) (by decide) rfl (Nat.le_of_ble_eq_true rfl) (show P_aw _ _ _ 0 [.ref (w.2.2 44)] [] _ _ from ?_)
  refine P_aw_op (L' := [.ref (w.2.2 44)]) (st' := [.ref (w.2.2 44)]) P_i86_0 rfl (show P_aw _ _ _ 1 [.ref (w.2.2 44)] [.ref (w.2.2 44)] _ _ from ?_)
  refine P_aw_getv P_i86_1 hw.2.2 (hw.s rfl) rfl rfl (hp0) (show P_aw _ _ _ 4 [.ref (w.2.2 44)] [P_z 1] _ _ from ?_)
  refine P_aw_end P_i86_4 rfl rfl (fun _ => rfl) rfl ?_
  show P_aw _ _ _ 11 [.ref (w.2.2 0)] [P_z 1] _ _
  refine P_aw_izt P_i155_11 ⟨by decide, by decide⟩ (P_ci_net (by omega)) (show P_aw _ _ _ 24 [.ref (w.2.2 0)] [] _ _ from ?_)
  refine P_aw_op (L' := [.ref (w.2.2 0)]) (st' := [.ref (w.2.2 0)]) P_i155_24 rfl (show P_aw _ _ _ 25 [.ref (w.2.2 0)] [.ref (w.2.2 0)] _ _ from ?_)
  refine P_aw_getR P_i155_25 (hw.2.1 0 (by decide)) (hw.s rfl) rfl rfl (show P_aw _ _ _ 28 [.ref (w.2.2 0)] [.ref (w.2.2 31)] _ _ from ?_)
  refine P_aw_call P_i155_28 rfl rfl (fun _ => rfl) rfl rfl rfl rfl (y2 := 3) (as := [.ref (w.2.2 31)]) (r0 := []) (P_inv_v (hw.2.1 31 (by decide)) (hw.s rfl) rfl rfl) (Nat.le_of_ble_eq_true rfl) (by decide) rfl (Nat.le_of_ble_eq_true rfl) (s_up hw hA hX hF hK hO hok htk hN hn01 hk16 hmt (fun σ2 sz f1 hrk hka => ?_))
  have hB2 : A_B w σ2 ns tb rw vr cl V cs od it ki ci gp oi lm nv := A_B_cg (fun a b h => f1 a b (by omega)) hB
  have hlm := hF.2.2.2.2.2.2.2.2
  show P_aw _ _ _ 31 [.ref (w.2.2 0)] [] _ _
  refine P_aw_op (L' := [.ref (w.2.2 0)]) (st' := [.ref (w.2.2 0)]) P_i155_31 rfl (show P_aw _ _ _ 32 [.ref (w.2.2 0)] [.ref (w.2.2 0)] _ _ from ?_)
  refine P_aw_getR P_i155_32 (hw.2.1 0 (by decide)) (hw.s rfl) rfl rfl (show P_aw _ _ _ 35 [.ref (w.2.2 0)] [.ref (w.2.2 44)] _ _ from ?_)
  refine P_aw_op (L' := [.ref (w.2.2 0)]) (st' := [.ref (w.2.2 0), .ref (w.2.2 44)]) P_i155_35 rfl (show P_aw _ _ _ 36 [.ref (w.2.2 0)] [.ref (w.2.2 0), .ref (w.2.2 44)] _ _ from ?_)
  refine P_aw_getR P_i155_36 (hw.2.1 0 (by decide)) (hw.s rfl) rfl rfl (show P_aw _ _ _ 39 [.ref (w.2.2 0)] [.ref (w.2.2 31), .ref (w.2.2 44)] _ _ from ?_)
  refine P_aw_call P_i155_39 rfl rfl (fun _ => rfl) rfl rfl rfl rfl (y2 := 88) (as := [.ref (w.2.2 44), .ref (w.2.2 31)]) (r0 := []) (P_inv_v hw.2.2 (hw.s rfl) rfl rfl) (Nat.le_of_ble_eq_true rfl) (by decide) rfl (Nat.le_of_ble_eq_true rfl) (s_take hw hB2 hka ((f1 44 0 (by omega)).trans hp0) ((f1 44 1 (by omega)).trans hp1) (by omega) hrk (fun z1 σ' z2 z3 z4 z5 z6 => ?_) (fun z1 σ' z2 z3 z4 z5 z6 => ?_))
  · skip
    show P_aw _ _ _ 42 [.ref (w.2.2 0)] [P_z 1] _ _
    refine P_aw_end P_i155_42 rfl rfl (fun _ => rfl) rfl ?_
    exact q1 σ' sz (fun a b h h2 => (z2 a b h2).trans (f1 a b h)) hrk (A_ka_cg (fun a b h => z2 a b (by omega)) hka) z1 z3 z4 z5 z6
  · skip
    show P_aw _ _ _ 42 [.ref (w.2.2 0)] [P_z 0] _ _
    refine P_aw_end P_i155_42 rfl rfl (fun _ => rfl) rfl ?_
    exact q σ' sz (fun a b h h2 => (z2 a b h2).trans (f1 a b h)) hrk (A_ka_cg (fun a b h => z2 a b (by omega)) hka) z1 z3 z4 z5 z6

theorem s_val {w : P_Lw} (hw : P_Cw w) {d : Nat} {Q : P_R → P_A → Prop} {σ : P_A} {ns : Int} {tb : Int → Nat} {rw : Int → Int} {vr : Int → Int → Int} {cl : Int → Int} {V : Int → Int → Int → Int} {cs : List A_cd} {od : Int → Int} {it : Int} {ki ci : Int → Int} {gp oi lm : Int} {nv : Int} (hB : A_B w σ ns tb rw vr cl V cs od it ki ci gp oi lm nv) {rd ck mt : Int} {sz : Nat} (hka : A_ka σ V rw it ki ci gp oi lm rd ck mt sz) {pl j : Int} (hp1 : σ 44 1 = pl) (hpl : 1 ≤ pl ∧ pl ≤ ((sz : Nat) : Int)) (hj : 0 ≤ j ∧ j < it) (q : Q (.inl (some (P_z (A_av σ V rw ki ci (A_gth ki it gp) (pl - 1) j)))) σ) : P_aw w (d + 10) 156 0 [.ref (w.2.2 0), P_z j] [] σ Q := by
  obtain ⟨hA, hX, hF, hK, hO, hok, htk, hN, hn01, hrd1, hfp⟩ := id hB
  have hns := hA.2.1
  have hit := hF.2.1
  have hsz0 := hK.2.1
  obtain ⟨hk16, hk5, hk6, hk15, hkR, hkG, hkS, hkP⟩ := id hka
  have hlm := hF.2.2.2.2.2.2.2.2
  have hsz27 := hkR.2.1
  refine P_aw_op (L' := [.ref (w.2.2 0), P_z j]) (st' := [.ref (w.2.2 0)]) P_i156_0 rfl (show P_aw _ _ _ 1 [.ref (w.2.2 0), P_z j] [.ref (w.2.2 0)] _ _ from ?_)
  refine P_aw_call P_i156_1 rfl rfl (fun _ => rfl) rfl rfl rfl rfl (y2 := 168) (as := [.ref (w.2.2 0)]) (r0 := []) (P_inv_v (hw.2.1 0 (by decide)) (hw.s rfl) rfl rfl) (Nat.le_of_ble_eq_true rfl) (by decide) rfl (Nat.le_of_ble_eq_true rfl) (show P_aw _ _ _ 0 [.ref (w.2.2 0)] [] _ _ from ?_)
  refine P_aw_op (L' := [.ref (w.2.2 0)]) (st' := [.ref (w.2.2 0)]) P_i168_0 rfl (show P_aw _ _ _ 1 [.ref (w.2.2 0)] [.ref (w.2.2 0)] _ _ from ?_)
  refine P_aw_getR P_i168_1 (hw.2.1 0 (by decide)) (hw.s rfl) rfl rfl (show P_aw _ _ _ 4 [.ref (w.2.2 0)] [.ref (w.2.2 29)] _ _ from ?_)
  refine P_aw_call P_i168_4 rfl rfl (fun _ => rfl) rfl rfl rfl rfl (y2 := 92) (as := [.ref (w.2.2 29)]) (r0 := []) (P_inv_v (hw.2.1 29 (by decide)) (hw.s rfl) rfl rfl) (Nat.le_of_ble_eq_true rfl) (by decide) rfl (Nat.le_of_ble_eq_true rfl) (show P_aw _ _ _ 0 [.ref (w.2.2 29)] [] _ _ from ?_)
  refine P_aw_op (L' := [.ref (w.2.2 29)]) (st' := [.ref (w.2.2 29)]) P_i92_0 rfl (show P_aw _ _ _ 1 [.ref (w.2.2 29)] [.ref (w.2.2 29)] _ _ from ?_)
  refine P_aw_getv P_i92_1 (hw.2.1 29 (by decide)) (hw.s rfl) rfl rfl (hrd1) (show P_aw _ _ _ 4 [.ref (w.2.2 29)] [P_z 1] _ _ from ?_)
  refine P_aw_end P_i92_4 rfl rfl (fun _ => rfl) rfl ?_
  show P_aw _ _ _ 7 [.ref (w.2.2 0)] [P_z 1] _ _
  refine P_aw_izt P_i168_7 ⟨by decide, by decide⟩ (P_ci_net (by omega)) (show P_aw _ _ _ 21 [.ref (w.2.2 0)] [] _ _ from ?_)
  refine P_aw_end P_i168_21 rfl rfl (fun _ => rfl) rfl ?_
  show P_aw _ _ _ 4 [.ref (w.2.2 0), P_z j] [] _ _
  refine P_aw_op (L' := [.ref (w.2.2 0), P_z j]) (st' := [.ref (w.2.2 0)]) P_i156_4 rfl (show P_aw _ _ _ 5 [.ref (w.2.2 0), P_z j] [.ref (w.2.2 0)] _ _ from ?_)
  refine P_aw_getR P_i156_5 (hw.2.1 0 (by decide)) (hw.s rfl) rfl rfl (show P_aw _ _ _ 8 [.ref (w.2.2 0), P_z j] [.ref (w.2.2 44)] _ _ from ?_)
  refine P_aw_call P_i156_8 rfl rfl (fun _ => rfl) rfl rfl rfl rfl (y2 := 87) (as := [.ref (w.2.2 44)]) (r0 := []) (P_inv_v hw.2.2 (hw.s rfl) rfl rfl) (Nat.le_of_ble_eq_true rfl) (by decide) rfl (Nat.le_of_ble_eq_true rfl) (show P_aw _ _ _ 0 [.ref (w.2.2 44)] [] _ _ from ?_)
  refine P_aw_op (L' := [.ref (w.2.2 44)]) (st' := [.ref (w.2.2 44)]) P_i87_0 rfl (show P_aw _ _ _ 1 [.ref (w.2.2 44)] [.ref (w.2.2 44)] _ _ from ?_)
  refine P_aw_getv P_i87_1 hw.2.2 (hw.s rfl) rfl rfl (hp1) (show P_aw _ _ _ 4 [.ref (w.2.2 44)] [P_z pl] _ _ from ?_)
  refine P_aw_end P_i87_4 rfl rfl (fun _ => rfl) rfl ?_
  show P_aw _ _ _ 11 [.ref (w.2.2 0), P_z j] [P_z pl] _ _
  refine P_aw_izt P_i156_11 ⟨by omega, by omega⟩ (P_ci_net (by omega)) (show P_aw _ _ _ 24 [.ref (w.2.2 0), P_z j] [] _ _ from ?_)
  refine P_aw_op (L' := [.ref (w.2.2 0), P_z j]) (st' := [.ref (w.2.2 0)]) P_i156_24 rfl (show P_aw _ _ _ 25 [.ref (w.2.2 0), P_z j] [.ref (w.2.2 0)] _ _ from ?_)
  refine P_aw_getR P_i156_25 (hw.2.1 0 (by decide)) (hw.s rfl) rfl rfl (show P_aw _ _ _ 28 [.ref (w.2.2 0), P_z j] [.ref (w.2.2 6)] _ _ from ?_)
  refine P_aw_op (L' := [.ref (w.2.2 0), P_z j]) (st' := [P_z j, .ref (w.2.2 6)]) P_i156_28 rfl (show P_aw _ _ _ 29 [.ref (w.2.2 0), P_z j] [P_z j, .ref (w.2.2 6)] _ _ from ?_)
  refine P_aw_call P_i156_29 rfl rfl (fun _ => rfl) rfl rfl rfl rfl (y2 := 36) (as := [.ref (w.2.2 6), P_z j]) (r0 := []) (P_inv_v (hw.2.1 6 (by decide)) (hw.s rfl) rfl rfl) (Nat.le_of_ble_eq_true rfl) (by decide) rfl (Nat.le_of_ble_eq_true rfl) (show P_aw _ _ _ 0 [.ref (w.2.2 6), P_z j] [] _ _ from ?_)
  refine P_aw_op (L' := [.ref (w.2.2 6), P_z j]) (st' := [P_z j]) P_i36_0 rfl (show P_aw _ _ _ 1 [.ref (w.2.2 6), P_z j] [P_z j] _ _ from ?_)
  refine P_aw_izf P_i36_1 ⟨by omega, by omega⟩ (P_ci_ltf (by omega)) (show P_aw _ _ _ 4 [.ref (w.2.2 6), P_z j] [] _ _ from ?_)
  refine P_aw_op (L' := [.ref (w.2.2 6), P_z j]) (st' := [P_z j]) P_i36_4 rfl (show P_aw _ _ _ 5 [.ref (w.2.2 6), P_z j] [P_z j] _ _ from ?_)
  refine P_aw_op (L' := [.ref (w.2.2 6), P_z j]) (st' := [.ref (w.2.2 6), P_z j]) P_i36_5 rfl (show P_aw _ _ _ 6 [.ref (w.2.2 6), P_z j] [.ref (w.2.2 6), P_z j] _ _ from ?_)
  have hg1 := hF.2.1
  refine P_aw_getv P_i36_6 (hw.2.1 6 (by decide)) (hw.s rfl) rfl rfl (hF.1) (show P_aw _ _ _ 9 [.ref (w.2.2 6), P_z j] [P_z it, P_z j] _ _ from ?_)
  refine P_aw_icf P_i36_9 ⟨by omega, by omega⟩ ⟨by omega, by omega⟩ (P_ci_gef (by omega)) (show P_aw _ _ _ 12 [.ref (w.2.2 6), P_z j] [] _ _ from ?_)
  refine P_aw_op (L' := [.ref (w.2.2 6), P_z j]) (st' := [P_z 1]) P_i36_12 rfl (show P_aw _ _ _ 13 [.ref (w.2.2 6), P_z j] [P_z 1] _ _ from ?_)
  refine P_aw_goto P_i36_13 (show P_aw _ _ _ 17 [.ref (w.2.2 6), P_z j] [P_z 1] _ _ from ?_)
  refine P_aw_end P_i36_17 rfl rfl (fun _ => rfl) rfl ?_
  show P_aw _ _ _ 32 [.ref (w.2.2 0), P_z j] [P_z 1] _ _
  refine P_aw_izt P_i156_32 ⟨by decide, by decide⟩ (P_ci_net (by omega)) (show P_aw _ _ _ 45 [.ref (w.2.2 0), P_z j] [] _ _ from ?_)
  refine P_aw_op (L' := [.ref (w.2.2 0), P_z j]) (st' := [.ref (w.2.2 0)]) P_i156_45 rfl (show P_aw _ _ _ 46 [.ref (w.2.2 0), P_z j] [.ref (w.2.2 0)] _ _ from ?_)
  refine P_aw_getR P_i156_46 (hw.2.1 0 (by decide)) (hw.s rfl) rfl rfl (show P_aw _ _ _ 49 [.ref (w.2.2 0), P_z j] [.ref (w.2.2 31)] _ _ from ?_)
  refine P_aw_call P_i156_49 rfl rfl (fun _ => rfl) rfl rfl rfl rfl (y2 := 3) (as := [.ref (w.2.2 31)]) (r0 := []) (P_inv_v (hw.2.1 31 (by decide)) (hw.s rfl) rfl rfl) (Nat.le_of_ble_eq_true rfl) (by decide) rfl (Nat.le_of_ble_eq_true rfl) (show P_aw _ _ _ 0 [.ref (w.2.2 31)] [] _ _ from ?_)
  refine P_aw_op (L' := [.ref (w.2.2 31)]) (st' := [.ref (w.2.2 31)]) P_i3_0 rfl (show P_aw _ _ _ 1 [.ref (w.2.2 31)] [.ref (w.2.2 31)] _ _ from ?_)
  refine P_aw_getv P_i3_1 (hw.2.1 31 (by decide)) (hw.s rfl) rfl rfl (hk16) (show P_aw _ _ _ 4 [.ref (w.2.2 31)] [P_z 1] _ _ from ?_)
  refine P_aw_izf P_i3_4 ⟨by decide, by decide⟩ (P_ci_eqf (by omega)) (show P_aw _ _ _ 7 [.ref (w.2.2 31)] [] _ _ from ?_)
  refine P_aw_end P_i3_7 rfl rfl (fun _ => rfl) rfl ?_
  show P_aw _ _ _ 52 [.ref (w.2.2 0), P_z j] [] _ _
  refine P_aw_op (L' := [.ref (w.2.2 0), P_z j]) (st' := [.ref (w.2.2 0)]) P_i156_52 rfl (show P_aw _ _ _ 53 [.ref (w.2.2 0), P_z j] [.ref (w.2.2 0)] _ _ from ?_)
  refine P_aw_getR P_i156_53 (hw.2.1 0 (by decide)) (hw.s rfl) rfl rfl (show P_aw _ _ _ 56 [.ref (w.2.2 0), P_z j] [.ref (w.2.2 31)] _ _ from ?_)
  refine P_aw_op (L' := [.ref (w.2.2 0), P_z j]) (st' := [.ref (w.2.2 0), .ref (w.2.2 31)]) P_i156_56 rfl (show P_aw _ _ _ 57 [.ref (w.2.2 0), P_z j] [.ref (w.2.2 0), .ref (w.2.2 31)] _ _ from ?_)
  refine P_aw_getR P_i156_57 (hw.2.1 0 (by decide)) (hw.s rfl) rfl rfl (show P_aw _ _ _ 60 [.ref (w.2.2 0), P_z j] [.ref (w.2.2 44), .ref (w.2.2 31)] _ _ from ?_)
  refine P_aw_call P_i156_60 rfl rfl (fun _ => rfl) rfl rfl rfl rfl (y2 := 87) (as := [.ref (w.2.2 44)]) (r0 := [.ref (w.2.2 31)]) (P_inv_v hw.2.2 (hw.s rfl) rfl rfl) (Nat.le_of_ble_eq_true rfl) (by decide) rfl (Nat.le_of_ble_eq_true rfl) (show P_aw _ _ _ 0 [.ref (w.2.2 44)] [] _ _ from ?_)
  refine P_aw_op (L' := [.ref (w.2.2 44)]) (st' := [.ref (w.2.2 44)]) P_i87_0 rfl (show P_aw _ _ _ 1 [.ref (w.2.2 44)] [.ref (w.2.2 44)] _ _ from ?_)
  refine P_aw_getv P_i87_1 hw.2.2 (hw.s rfl) rfl rfl (hp1) (show P_aw _ _ _ 4 [.ref (w.2.2 44)] [P_z pl] _ _ from ?_)
  refine P_aw_end P_i87_4 rfl rfl (fun _ => rfl) rfl ?_
  show P_aw _ _ _ 63 [.ref (w.2.2 0), P_z j] [P_z pl, .ref (w.2.2 31)] _ _
  refine P_aw_op (L' := [.ref (w.2.2 0), P_z j]) (st' := [P_z 1, P_z pl, .ref (w.2.2 31)]) P_i156_63 rfl (show P_aw _ _ _ 64 [.ref (w.2.2 0), P_z j] [P_z 1, P_z pl, .ref (w.2.2 31)] _ _ from ?_)
  refine P_aw_op (L' := [.ref (w.2.2 0), P_z j]) (st' := [P_z (pl - 1), .ref (w.2.2 31)]) P_i156_64 P_o_isub (show P_aw _ _ _ 65 [.ref (w.2.2 0), P_z j] [P_z (pl - 1), .ref (w.2.2 31)] _ _ from ?_)
  refine P_aw_op (L' := [.ref (w.2.2 0), P_z j]) (st' := [P_z j, P_z (pl - 1), .ref (w.2.2 31)]) P_i156_65 rfl (show P_aw _ _ _ 66 [.ref (w.2.2 0), P_z j] [P_z j, P_z (pl - 1), .ref (w.2.2 31)] _ _ from ?_)
  refine P_aw_call P_i156_66 rfl rfl (fun _ => rfl) rfl rfl rfl rfl (y2 := 8) (as := [.ref (w.2.2 31), P_z (pl - 1), P_z j]) (r0 := []) (P_inv_v (hw.2.1 31 (by decide)) (hw.s rfl) rfl rfl) (Nat.le_of_ble_eq_true rfl) (by decide) rfl (Nat.le_of_ble_eq_true rfl) (s_av (p := (pl - 1)) hw hA hX hF hkG (by omega) hj (hkR.2.2.1 ((pl - 1)).toNat (by omega)) ?_)
  show P_aw _ _ _ 69 [.ref (w.2.2 0), P_z j] [P_z (A_av σ V rw ki ci (A_gth ki it gp) (pl - 1) j)] _ _
  refine P_aw_end P_i156_69 rfl rfl (fun _ => rfl) rfl ?_
  exact q

theorem s_res {w : P_Lw} (hw : P_Cw w) {d : Nat} {Q : P_R → P_A → Prop} {σ : P_A} {ns : Int} {tb : Int → Nat} {rw : Int → Int} {vr : Int → Int → Int} {cl : Int → Int} {V : Int → Int → Int → Int} {cs : List A_cd} {od : Int → Int} {it : Int} {ki ci : Int → Int} {gp oi lm : Int} {nv : Int} (hB : A_B w σ ns tb rw vr cl V cs od it ki ci gp oi lm nv) {rd ck mt : Int} {sz : Nat} (hka : A_ka σ V rw it ki ci gp oi lm rd ck mt sz) {p j : Int} (hp : 0 ≤ p ∧ p < min ((sz : Nat) : Int) lm) (hj : 0 ≤ j ∧ j < it) (q : Q (.inl (some (P_z (A_av σ V rw ki ci (A_gth ki it gp) p j)))) σ) : P_aw w (d + 10) 159 0 [.ref (w.2.2 0), P_z p, P_z j] [] σ Q := by
  obtain ⟨hA, hX, hF, hK, hO, hok, htk, hN, hn01, hrd1, hfp⟩ := id hB
  have hns := hA.2.1
  have hit := hF.2.1
  have hsz0 := hK.2.1
  obtain ⟨hk16, hk5, hk6, hk15, hkR, hkG, hkS, hkP⟩ := id hka
  have hlm := hF.2.2.2.2.2.2.2.2
  have hsz27 := hkR.2.1
  refine P_aw_op (L' := [.ref (w.2.2 0), P_z p, P_z j]) (st' := [.ref (w.2.2 0)]) P_i159_0 rfl (show P_aw _ _ _ 1 [.ref (w.2.2 0), P_z p, P_z j] [.ref (w.2.2 0)] _ _ from ?_)
  refine P_aw_call P_i159_1 rfl rfl (fun _ => rfl) rfl rfl rfl rfl (y2 := 168) (as := [.ref (w.2.2 0)]) (r0 := []) (P_inv_v (hw.2.1 0 (by decide)) (hw.s rfl) rfl rfl) (Nat.le_of_ble_eq_true rfl) (by decide) rfl (Nat.le_of_ble_eq_true rfl) (show P_aw _ _ _ 0 [.ref (w.2.2 0)] [] _ _ from ?_)
  refine P_aw_op (L' := [.ref (w.2.2 0)]) (st' := [.ref (w.2.2 0)]) P_i168_0 rfl (show P_aw _ _ _ 1 [.ref (w.2.2 0)] [.ref (w.2.2 0)] _ _ from ?_)
  refine P_aw_getR P_i168_1 (hw.2.1 0 (by decide)) (hw.s rfl) rfl rfl (show P_aw _ _ _ 4 [.ref (w.2.2 0)] [.ref (w.2.2 29)] _ _ from ?_)
  refine P_aw_call P_i168_4 rfl rfl (fun _ => rfl) rfl rfl rfl rfl (y2 := 92) (as := [.ref (w.2.2 29)]) (r0 := []) (P_inv_v (hw.2.1 29 (by decide)) (hw.s rfl) rfl rfl) (Nat.le_of_ble_eq_true rfl) (by decide) rfl (Nat.le_of_ble_eq_true rfl) (show P_aw _ _ _ 0 [.ref (w.2.2 29)] [] _ _ from ?_)
  refine P_aw_op (L' := [.ref (w.2.2 29)]) (st' := [.ref (w.2.2 29)]) P_i92_0 rfl (show P_aw _ _ _ 1 [.ref (w.2.2 29)] [.ref (w.2.2 29)] _ _ from ?_)
  refine P_aw_getv P_i92_1 (hw.2.1 29 (by decide)) (hw.s rfl) rfl rfl (hrd1) (show P_aw _ _ _ 4 [.ref (w.2.2 29)] [P_z 1] _ _ from ?_)
  refine P_aw_end P_i92_4 rfl rfl (fun _ => rfl) rfl ?_
  show P_aw _ _ _ 7 [.ref (w.2.2 0)] [P_z 1] _ _
  refine P_aw_izt P_i168_7 ⟨by decide, by decide⟩ (P_ci_net (by omega)) (show P_aw _ _ _ 21 [.ref (w.2.2 0)] [] _ _ from ?_)
  refine P_aw_end P_i168_21 rfl rfl (fun _ => rfl) rfl ?_
  show P_aw _ _ _ 4 [.ref (w.2.2 0), P_z p, P_z j] [] _ _
  refine P_aw_op (L' := [.ref (w.2.2 0), P_z p, P_z j]) (st' := [.ref (w.2.2 0)]) P_i159_4 rfl (show P_aw _ _ _ 5 [.ref (w.2.2 0), P_z p, P_z j] [.ref (w.2.2 0)] _ _ from ?_)
  refine P_aw_getR P_i159_5 (hw.2.1 0 (by decide)) (hw.s rfl) rfl rfl (show P_aw _ _ _ 8 [.ref (w.2.2 0), P_z p, P_z j] [.ref (w.2.2 31)] _ _ from ?_)
  refine P_aw_call P_i159_8 rfl rfl (fun _ => rfl) rfl rfl rfl rfl (y2 := 3) (as := [.ref (w.2.2 31)]) (r0 := []) (P_inv_v (hw.2.1 31 (by decide)) (hw.s rfl) rfl rfl) (Nat.le_of_ble_eq_true rfl) (by decide) rfl (Nat.le_of_ble_eq_true rfl) (show P_aw _ _ _ 0 [.ref (w.2.2 31)] [] _ _ from ?_)
  refine P_aw_op (L' := [.ref (w.2.2 31)]) (st' := [.ref (w.2.2 31)]) P_i3_0 rfl (show P_aw _ _ _ 1 [.ref (w.2.2 31)] [.ref (w.2.2 31)] _ _ from ?_)
  refine P_aw_getv P_i3_1 (hw.2.1 31 (by decide)) (hw.s rfl) rfl rfl (hk16) (show P_aw _ _ _ 4 [.ref (w.2.2 31)] [P_z 1] _ _ from ?_)
  refine P_aw_izf P_i3_4 ⟨by decide, by decide⟩ (P_ci_eqf (by omega)) (show P_aw _ _ _ 7 [.ref (w.2.2 31)] [] _ _ from ?_)
  refine P_aw_end P_i3_7 rfl rfl (fun _ => rfl) rfl ?_
  show P_aw _ _ _ 11 [.ref (w.2.2 0), P_z p, P_z j] [] _ _
  refine P_aw_op (L' := [.ref (w.2.2 0), P_z p, P_z j]) (st' := [P_z p]) P_i159_11 rfl (show P_aw _ _ _ 12 [.ref (w.2.2 0), P_z p, P_z j] [P_z p] _ _ from ?_)
  refine P_aw_izf P_i159_12 ⟨by omega, by omega⟩ (P_ci_ltf (by omega)) (show P_aw _ _ _ 15 [.ref (w.2.2 0), P_z p, P_z j] [] _ _ from ?_)
  refine P_aw_op (L' := [.ref (w.2.2 0), P_z p, P_z j]) (st' := [P_z p]) P_i159_15 rfl (show P_aw _ _ _ 16 [.ref (w.2.2 0), P_z p, P_z j] [P_z p] _ _ from ?_)
  refine P_aw_op (L' := [.ref (w.2.2 0), P_z p, P_z j]) (st' := [.ref (w.2.2 0), P_z p]) P_i159_16 rfl (show P_aw _ _ _ 17 [.ref (w.2.2 0), P_z p, P_z j] [.ref (w.2.2 0), P_z p] _ _ from ?_)
  refine P_aw_getR P_i159_17 (hw.2.1 0 (by decide)) (hw.s rfl) rfl rfl (show P_aw _ _ _ 20 [.ref (w.2.2 0), P_z p, P_z j] [.ref (w.2.2 31), P_z p] _ _ from ?_)
  refine P_aw_call P_i159_20 rfl rfl (fun _ => rfl) rfl rfl rfl rfl (y2 := 5) (as := [.ref (w.2.2 31)]) (r0 := [P_z p]) (P_inv_v (hw.2.1 31 (by decide)) (hw.s rfl) rfl rfl) (Nat.le_of_ble_eq_true rfl) (by decide) rfl (Nat.le_of_ble_eq_true rfl) (show P_aw _ _ _ 0 [.ref (w.2.2 31)] [] _ _ from ?_)
  refine P_aw_op (L' := [.ref (w.2.2 31)]) (st' := [.ref (w.2.2 31)]) P_i5_0 rfl (show P_aw _ _ _ 1 [.ref (w.2.2 31)] [.ref (w.2.2 31)] _ _ from ?_)
  refine P_aw_getv P_i5_1 (hw.2.1 31 (by decide)) (hw.s rfl) rfl rfl (hk15) (show P_aw _ _ _ 4 [.ref (w.2.2 31)] [P_z (min ((sz : Nat) : Int) lm)] _ _ from ?_)
  refine P_aw_end P_i5_4 rfl rfl (fun _ => rfl) rfl ?_
  show P_aw _ _ _ 23 [.ref (w.2.2 0), P_z p, P_z j] [P_z (min ((sz : Nat) : Int) lm), P_z p] _ _
  refine P_aw_icf P_i159_23 ⟨by omega, by omega⟩ ⟨by omega, by omega⟩ (P_ci_gef (by omega)) (show P_aw _ _ _ 26 [.ref (w.2.2 0), P_z p, P_z j] [] _ _ from ?_)
  refine P_aw_op (L' := [.ref (w.2.2 0), P_z p, P_z j]) (st' := [.ref (w.2.2 0)]) P_i159_26 rfl (show P_aw _ _ _ 27 [.ref (w.2.2 0), P_z p, P_z j] [.ref (w.2.2 0)] _ _ from ?_)
  refine P_aw_getR P_i159_27 (hw.2.1 0 (by decide)) (hw.s rfl) rfl rfl (show P_aw _ _ _ 30 [.ref (w.2.2 0), P_z p, P_z j] [.ref (w.2.2 6)] _ _ from ?_)
  refine P_aw_op (L' := [.ref (w.2.2 0), P_z p, P_z j]) (st' := [P_z j, .ref (w.2.2 6)]) P_i159_30 rfl (show P_aw _ _ _ 31 [.ref (w.2.2 0), P_z p, P_z j] [P_z j, .ref (w.2.2 6)] _ _ from ?_)
  refine P_aw_call P_i159_31 rfl rfl (fun _ => rfl) rfl rfl rfl rfl (y2 := 36) (as := [.ref (w.2.2 6), P_z j]) (r0 := []) (P_inv_v (hw.2.1 6 (by decide)) (hw.s rfl) rfl rfl) (Nat.le_of_ble_eq_true rfl) (by decide) rfl (Nat.le_of_ble_eq_true rfl) (show P_aw _ _ _ 0 [.ref (w.2.2 6), P_z j] [] _ _ from ?_)
  refine P_aw_op (L' := [.ref (w.2.2 6), P_z j]) (st' := [P_z j]) P_i36_0 rfl (show P_aw _ _ _ 1 [.ref (w.2.2 6), P_z j] [P_z j] _ _ from ?_)
  refine P_aw_izf P_i36_1 ⟨by omega, by omega⟩ (P_ci_ltf (by omega)) (show P_aw _ _ _ 4 [.ref (w.2.2 6), P_z j] [] _ _ from ?_)
  refine P_aw_op (L' := [.ref (w.2.2 6), P_z j]) (st' := [P_z j]) P_i36_4 rfl (show P_aw _ _ _ 5 [.ref (w.2.2 6), P_z j] [P_z j] _ _ from ?_)
  refine P_aw_op (L' := [.ref (w.2.2 6), P_z j]) (st' := [.ref (w.2.2 6), P_z j]) P_i36_5 rfl (show P_aw _ _ _ 6 [.ref (w.2.2 6), P_z j] [.ref (w.2.2 6), P_z j] _ _ from ?_)
  have hg1 := hF.2.1
  refine P_aw_getv P_i36_6 (hw.2.1 6 (by decide)) (hw.s rfl) rfl rfl (hF.1) (show P_aw _ _ _ 9 [.ref (w.2.2 6), P_z j] [P_z it, P_z j] _ _ from ?_)
  refine P_aw_icf P_i36_9 ⟨by omega, by omega⟩ ⟨by omega, by omega⟩ (P_ci_gef (by omega)) (show P_aw _ _ _ 12 [.ref (w.2.2 6), P_z j] [] _ _ from ?_)
  refine P_aw_op (L' := [.ref (w.2.2 6), P_z j]) (st' := [P_z 1]) P_i36_12 rfl (show P_aw _ _ _ 13 [.ref (w.2.2 6), P_z j] [P_z 1] _ _ from ?_)
  refine P_aw_goto P_i36_13 (show P_aw _ _ _ 17 [.ref (w.2.2 6), P_z j] [P_z 1] _ _ from ?_)
  refine P_aw_end P_i36_17 rfl rfl (fun _ => rfl) rfl ?_
  show P_aw _ _ _ 34 [.ref (w.2.2 0), P_z p, P_z j] [P_z 1] _ _
  refine P_aw_izt P_i159_34 ⟨by decide, by decide⟩ (P_ci_net (by omega)) (show P_aw _ _ _ 47 [.ref (w.2.2 0), P_z p, P_z j] [] _ _ from ?_)
  refine P_aw_op (L' := [.ref (w.2.2 0), P_z p, P_z j]) (st' := [.ref (w.2.2 0)]) P_i159_47 rfl (show P_aw _ _ _ 48 [.ref (w.2.2 0), P_z p, P_z j] [.ref (w.2.2 0)] _ _ from ?_)
  refine P_aw_getR P_i159_48 (hw.2.1 0 (by decide)) (hw.s rfl) rfl rfl (show P_aw _ _ _ 51 [.ref (w.2.2 0), P_z p, P_z j] [.ref (w.2.2 31)] _ _ from ?_)
  refine P_aw_op (L' := [.ref (w.2.2 0), P_z p, P_z j]) (st' := [P_z p, .ref (w.2.2 31)]) P_i159_51 rfl (show P_aw _ _ _ 52 [.ref (w.2.2 0), P_z p, P_z j] [P_z p, .ref (w.2.2 31)] _ _ from ?_)
  refine P_aw_op (L' := [.ref (w.2.2 0), P_z p, P_z j]) (st' := [P_z j, P_z p, .ref (w.2.2 31)]) P_i159_52 rfl (show P_aw _ _ _ 53 [.ref (w.2.2 0), P_z p, P_z j] [P_z j, P_z p, .ref (w.2.2 31)] _ _ from ?_)
  refine P_aw_call P_i159_53 rfl rfl (fun _ => rfl) rfl rfl rfl rfl (y2 := 8) (as := [.ref (w.2.2 31), P_z p, P_z j]) (r0 := []) (P_inv_v (hw.2.1 31 (by decide)) (hw.s rfl) rfl rfl) (Nat.le_of_ble_eq_true rfl) (by decide) rfl (Nat.le_of_ble_eq_true rfl) (s_av (p := p) hw hA hX hF hkG (by omega) hj (hkR.2.2.1 (p).toNat (by omega)) ?_)
  show P_aw _ _ _ 56 [.ref (w.2.2 0), P_z p, P_z j] [P_z (A_av σ V rw ki ci (A_gth ki it gp) p j)] _ _
  refine P_aw_end P_i159_56 rfl rfl (fun _ => rfl) rfl ?_
  exact q

theorem s_mwo {w : P_Lw} (hw : P_Cw w) {d : Nat} {Q : P_R → P_A → Prop} {σ : P_A} {ns : Int} {tb : Int → Nat} {rw : Int → Int} {vr : Int → Int → Int} {cl : Int → Int} {V : Int → Int → Int → Int} {cs : List A_cd} {od : Int → Int} {it : Int} {ki ci : Int → Int} {gp oi lm : Int} {nv : Int} (hB : A_B w σ ns tb rw vr cl V cs od it ki ci gp oi lm nv) (hl42 : w.2.1 42 = true) (hl43 : w.2.1 43 = true) {k : Int} (hk : 0 ≤ k ∧ k < (cs.length : Int)) (q : ∀ σ', (∀ a b, ¬ (42 ≤ a ∧ a ≤ 43) → σ' a b = σ a b) → Q (.inl (some (P_z (A_go 1000000000 (fun p ρ => A_hl (A_val V rw ρ) p k cs 0) od rw ns.toNat 0 (fun _ => 0, 0, 0, 0)).2.2.2))) σ') : P_aw w (d + 14) 161 0 [.ref (w.2.2 0), P_z k] [] σ Q := by
  obtain ⟨hA, hX, hF, hK, hO, hok, htk, hN, hn01, hrd1, hfp⟩ := id hB
  have hns := hA.2.1
  have hit := hF.2.1
  have hsz0 := hK.2.1
  refine P_aw_op (L' := [.ref (w.2.2 0), P_z k]) (st' := [.ref (w.2.2 0)]) P_i161_0 rfl (show P_aw _ _ _ 1 [.ref (w.2.2 0), P_z k] [.ref (w.2.2 0)] _ _ from ?_)
  refine P_aw_call P_i161_1 rfl rfl (fun _ => rfl) rfl rfl rfl rfl (y2 := 168) (as := [.ref (w.2.2 0)]) (r0 := []) (P_inv_v (hw.2.1 0 (by decide)) (hw.s rfl) rfl rfl) (Nat.le_of_ble_eq_true rfl) (by decide) rfl (Nat.le_of_ble_eq_true rfl) (show P_aw _ _ _ 0 [.ref (w.2.2 0)] [] _ _ from ?_)
  refine P_aw_op (L' := [.ref (w.2.2 0)]) (st' := [.ref (w.2.2 0)]) P_i168_0 rfl (show P_aw _ _ _ 1 [.ref (w.2.2 0)] [.ref (w.2.2 0)] _ _ from ?_)
  refine P_aw_getR P_i168_1 (hw.2.1 0 (by decide)) (hw.s rfl) rfl rfl (show P_aw _ _ _ 4 [.ref (w.2.2 0)] [.ref (w.2.2 29)] _ _ from ?_)
  refine P_aw_call P_i168_4 rfl rfl (fun _ => rfl) rfl rfl rfl rfl (y2 := 92) (as := [.ref (w.2.2 29)]) (r0 := []) (P_inv_v (hw.2.1 29 (by decide)) (hw.s rfl) rfl rfl) (Nat.le_of_ble_eq_true rfl) (by decide) rfl (Nat.le_of_ble_eq_true rfl) (show P_aw _ _ _ 0 [.ref (w.2.2 29)] [] _ _ from ?_)
  refine P_aw_op (L' := [.ref (w.2.2 29)]) (st' := [.ref (w.2.2 29)]) P_i92_0 rfl (show P_aw _ _ _ 1 [.ref (w.2.2 29)] [.ref (w.2.2 29)] _ _ from ?_)
  refine P_aw_getv P_i92_1 (hw.2.1 29 (by decide)) (hw.s rfl) rfl rfl (hrd1) (show P_aw _ _ _ 4 [.ref (w.2.2 29)] [P_z 1] _ _ from ?_)
  refine P_aw_end P_i92_4 rfl rfl (fun _ => rfl) rfl ?_
  show P_aw _ _ _ 7 [.ref (w.2.2 0)] [P_z 1] _ _
  refine P_aw_izt P_i168_7 ⟨by decide, by decide⟩ (P_ci_net (by omega)) (show P_aw _ _ _ 21 [.ref (w.2.2 0)] [] _ _ from ?_)
  refine P_aw_end P_i168_21 rfl rfl (fun _ => rfl) rfl ?_
  show P_aw _ _ _ 4 [.ref (w.2.2 0), P_z k] [] _ _
  refine P_aw_op (L' := [.ref (w.2.2 0), P_z k]) (st' := [.ref (w.2.2 0)]) P_i161_4 rfl (show P_aw _ _ _ 5 [.ref (w.2.2 0), P_z k] [.ref (w.2.2 0)] _ _ from ?_)
  refine P_aw_getR P_i161_5 (hw.2.1 0 (by decide)) (hw.s rfl) rfl rfl (show P_aw _ _ _ 8 [.ref (w.2.2 0), P_z k] [.ref (w.2.2 13)] _ _ from ?_)
  refine P_aw_op (L' := [.ref (w.2.2 0), P_z k]) (st' := [P_z k, .ref (w.2.2 13)]) P_i161_8 rfl (show P_aw _ _ _ 9 [.ref (w.2.2 0), P_z k] [P_z k, .ref (w.2.2 13)] _ _ from ?_)
  refine P_aw_call P_i161_9 rfl rfl (fun _ => rfl) rfl rfl rfl rfl (y2 := 56) (as := [.ref (w.2.2 13), P_z k]) (r0 := []) (P_inv_v (hw.2.1 13 (by decide)) (hw.s rfl) rfl rfl) (Nat.le_of_ble_eq_true rfl) (by decide) rfl (Nat.le_of_ble_eq_true rfl) (show P_aw _ _ _ 0 [.ref (w.2.2 13), P_z k] [] _ _ from ?_)
  refine P_aw_op (L' := [.ref (w.2.2 13), P_z k]) (st' := [P_z k]) P_i56_0 rfl (show P_aw _ _ _ 1 [.ref (w.2.2 13), P_z k] [P_z k] _ _ from ?_)
  refine P_aw_izf P_i56_1 ⟨by omega, by omega⟩ (P_ci_ltf (by omega)) (show P_aw _ _ _ 4 [.ref (w.2.2 13), P_z k] [] _ _ from ?_)
  refine P_aw_op (L' := [.ref (w.2.2 13), P_z k]) (st' := [P_z k]) P_i56_4 rfl (show P_aw _ _ _ 5 [.ref (w.2.2 13), P_z k] [P_z k] _ _ from ?_)
  refine P_aw_op (L' := [.ref (w.2.2 13), P_z k]) (st' := [.ref (w.2.2 13), P_z k]) P_i56_5 rfl (show P_aw _ _ _ 6 [.ref (w.2.2 13), P_z k] [.ref (w.2.2 13), P_z k] _ _ from ?_)
  have hg1 := hK.2.1
  refine P_aw_getv P_i56_6 (hw.2.1 13 (by decide)) (hw.s rfl) rfl rfl (hK.1) (show P_aw _ _ _ 9 [.ref (w.2.2 13), P_z k] [P_z (cs.length : Int), P_z k] _ _ from ?_)
  refine P_aw_icf P_i56_9 ⟨by omega, by omega⟩ ⟨by omega, by omega⟩ (P_ci_gef (by omega)) (show P_aw _ _ _ 12 [.ref (w.2.2 13), P_z k] [] _ _ from ?_)
  refine P_aw_op (L' := [.ref (w.2.2 13), P_z k]) (st' := [P_z 1]) P_i56_12 rfl (show P_aw _ _ _ 13 [.ref (w.2.2 13), P_z k] [P_z 1] _ _ from ?_)
  refine P_aw_goto P_i56_13 (show P_aw _ _ _ 17 [.ref (w.2.2 13), P_z k] [P_z 1] _ _ from ?_)
  refine P_aw_end P_i56_17 rfl rfl (fun _ => rfl) rfl ?_
  show P_aw _ _ _ 12 [.ref (w.2.2 0), P_z k] [P_z 1] _ _
  refine P_aw_izt P_i161_12 ⟨by decide, by decide⟩ (P_ci_net (by omega)) (show P_aw _ _ _ 25 [.ref (w.2.2 0), P_z k] [] _ _ from ?_)
  refine P_aw_op (L' := [.ref (w.2.2 0), P_z k]) (st' := [.ref (w.2.2 0)]) P_i161_25 rfl (show P_aw _ _ _ 26 [.ref (w.2.2 0), P_z k] [.ref (w.2.2 0)] _ _ from ?_)
  refine P_aw_getR P_i161_26 (hw.2.1 0 (by decide)) (hw.s rfl) rfl rfl (show P_aw _ _ _ 29 [.ref (w.2.2 0), P_z k] [.ref (w.2.2 42)] _ _ from ?_)
  refine P_aw_op (L' := [.ref (w.2.2 0), P_z k]) (st' := [P_z k, .ref (w.2.2 42)]) P_i161_29 rfl (show P_aw _ _ _ 30 [.ref (w.2.2 0), P_z k] [P_z k, .ref (w.2.2 42)] _ _ from ?_)
  refine P_aw_op (L' := [.ref (w.2.2 0), P_z k]) (st' := [P_z 1000000000, P_z k, .ref (w.2.2 42)]) P_i161_30 rfl (show P_aw _ _ _ 33 [.ref (w.2.2 0), P_z k] [P_z 1000000000, P_z k, .ref (w.2.2 42)] _ _ from ?_)
  refine P_aw_call P_i161_33 rfl rfl (fun _ => rfl) rfl rfl rfl rfl (y2 := 133) (as := [.ref (w.2.2 42), P_z k, P_z 1000000000]) (r0 := []) (P_inv_v hl42 (hw.s rfl) rfl rfl) (Nat.le_of_ble_eq_true rfl) (by decide) rfl (Nat.le_of_ble_eq_true rfl) (s_walk42 (Inv := fun _ _ _ _ => True) (wo := k) (most := 1000000000) hw hl42 hl43 (by omega) (by omega) hok htk (fun _ _ _ _ _ _ _ _ _ _ _ => trivial) (fun σ S a1 a2 a3 => s_cmt hw (a3 σ (fun _ _ => rfl) trivial)) hA hX hK hO (fun _ _ => trivial) (fun σ' z1 z2 z3 z4 => ?_))
  show P_aw _ _ _ 36 [.ref (w.2.2 0), P_z k] [] _ _
  refine P_aw_op (L' := [.ref (w.2.2 0), P_z k]) (st' := [.ref (w.2.2 0)]) P_i161_36 rfl (show P_aw _ _ _ 37 [.ref (w.2.2 0), P_z k] [.ref (w.2.2 0)] _ _ from ?_)
  refine P_aw_getR P_i161_37 (hw.2.1 0 (by decide)) (hw.s rfl) rfl rfl (show P_aw _ _ _ 40 [.ref (w.2.2 0), P_z k] [.ref (w.2.2 42)] _ _ from ?_)
  refine P_aw_call P_i161_40 rfl rfl (fun _ => rfl) rfl rfl rfl rfl (y2 := 131) (as := [.ref (w.2.2 42)]) (r0 := []) (P_inv_v hl42 (hw.s rfl) rfl rfl) (Nat.le_of_ble_eq_true rfl) (by decide) rfl (Nat.le_of_ble_eq_true rfl) (show P_aw _ _ _ 0 [.ref (w.2.2 42)] [] _ _ from ?_)
  refine P_aw_op (L' := [.ref (w.2.2 42)]) (st' := [.ref (w.2.2 42)]) P_i131_0 rfl (show P_aw _ _ _ 1 [.ref (w.2.2 42)] [.ref (w.2.2 42)] _ _ from ?_)
  refine P_aw_getv P_i131_1 hl42 (hw.s rfl) rfl rfl (z3.2.2.2.2.2.1) (show P_aw _ _ _ 4 [.ref (w.2.2 42)] [P_z (A_go 1000000000 (fun p ρ => A_hl (A_val V rw ρ) p k cs 0) od rw ns.toNat 0 (fun _ => 0, 0, 0, 0)).2.2.2] _ _ from ?_)
  refine P_aw_end P_i131_4 rfl rfl (fun _ => rfl) rfl ?_
  show P_aw _ _ _ 43 [.ref (w.2.2 0), P_z k] [P_z (A_go 1000000000 (fun p ρ => A_hl (A_val V rw ρ) p k cs 0) od rw ns.toNat 0 (fun _ => 0, 0, 0, 0)).2.2.2] _ _
  refine P_aw_end P_i161_43 rfl rfl (fun _ => rfl) rfl ?_
  exact q σ' z1

theorem s_sha1 {w : P_Lw} (hw : P_Cw w) {d : Nat} {Q : P_R → P_A → Prop} {σ : P_A} {tb : Int → Nat} {rw : Int → Int} {vr : Int → Int → Int} {cl : Int → Int} {V : Int → Int → Int → Int} {cs : List A_cd} {od : Int → Int} {it : Int} {ki ci : Int → Int} {gp oi lm : Int} {nv : Int} (hB : A_B w σ 1 tb rw vr cl V cs od it ki ci gp oi lm nv) (hl42 : w.2.1 42 = true) (hl43 : w.2.1 43 = true) (hdd : ¬ ((1 * (rw 0)) = 0 ∨ nv = 1) → FP.ddiv (FP.i2d (Int32.ofInt (A_go 1000000000 (fun p ρ => A_hl (A_val V rw ρ) p (-1) cs 0) od rw (1 : Int).toNat 0 (fun _ => 0, 0, 0, 0)).2.2.2)) (FP.i2d (Int32.ofInt (1 * (rw 0)))) &&& 0x7fffffffffffffff ≤ 0x7ff0000000000000) (q0 : (1 * (rw 0)) = 0 ∨ nv = 1 → Q (.inl (some (.double (0 : UInt64)))) σ) (q : ¬ ((1 * (rw 0)) = 0 ∨ nv = 1) → ∀ σ', (∀ a b, ¬ (42 ≤ a ∧ a ≤ 43) → σ' a b = σ a b) → Q (.inl (some (.double (FP.ddiv (FP.i2d (Int32.ofInt (A_go 1000000000 (fun p ρ => A_hl (A_val V rw ρ) p (-1) cs 0) od rw (1 : Int).toNat 0 (fun _ => 0, 0, 0, 0)).2.2.2)) (FP.i2d (Int32.ofInt (1 * (rw 0)))))))) σ') : P_aw w (d + 14) 162 0 [.ref (w.2.2 0), P_un] [] σ Q := by
  obtain ⟨hA, hX, hF, hK, hO, hok, htk, hN, hn01, hrd1, hfp⟩ := id hB
  have hns := hA.2.1
  have hit := hF.2.1
  have hsz0 := hK.2.1
  refine P_aw_op (L' := [.ref (w.2.2 0), P_un]) (st' := [.ref (w.2.2 0)]) P_i162_0 rfl (show P_aw _ _ _ 1 [.ref (w.2.2 0), P_un] [.ref (w.2.2 0)] _ _ from ?_)
  refine P_aw_call P_i162_1 rfl rfl (fun _ => rfl) rfl rfl rfl rfl (y2 := 168) (as := [.ref (w.2.2 0)]) (r0 := []) (P_inv_v (hw.2.1 0 (by decide)) (hw.s rfl) rfl rfl) (Nat.le_of_ble_eq_true rfl) (by decide) rfl (Nat.le_of_ble_eq_true rfl) (show P_aw _ _ _ 0 [.ref (w.2.2 0)] [] _ _ from ?_)
  refine P_aw_op (L' := [.ref (w.2.2 0)]) (st' := [.ref (w.2.2 0)]) P_i168_0 rfl (show P_aw _ _ _ 1 [.ref (w.2.2 0)] [.ref (w.2.2 0)] _ _ from ?_)
  refine P_aw_getR P_i168_1 (hw.2.1 0 (by decide)) (hw.s rfl) rfl rfl (show P_aw _ _ _ 4 [.ref (w.2.2 0)] [.ref (w.2.2 29)] _ _ from ?_)
  refine P_aw_call P_i168_4 rfl rfl (fun _ => rfl) rfl rfl rfl rfl (y2 := 92) (as := [.ref (w.2.2 29)]) (r0 := []) (P_inv_v (hw.2.1 29 (by decide)) (hw.s rfl) rfl rfl) (Nat.le_of_ble_eq_true rfl) (by decide) rfl (Nat.le_of_ble_eq_true rfl) (show P_aw _ _ _ 0 [.ref (w.2.2 29)] [] _ _ from ?_)
  refine P_aw_op (L' := [.ref (w.2.2 29)]) (st' := [.ref (w.2.2 29)]) P_i92_0 rfl (show P_aw _ _ _ 1 [.ref (w.2.2 29)] [.ref (w.2.2 29)] _ _ from ?_)
  refine P_aw_getv P_i92_1 (hw.2.1 29 (by decide)) (hw.s rfl) rfl rfl (hrd1) (show P_aw _ _ _ 4 [.ref (w.2.2 29)] [P_z 1] _ _ from ?_)
  refine P_aw_end P_i92_4 rfl rfl (fun _ => rfl) rfl ?_
  show P_aw _ _ _ 7 [.ref (w.2.2 0)] [P_z 1] _ _
  refine P_aw_izt P_i168_7 ⟨by decide, by decide⟩ (P_ci_net (by omega)) (show P_aw _ _ _ 21 [.ref (w.2.2 0)] [] _ _ from ?_)
  refine P_aw_end P_i168_21 rfl rfl (fun _ => rfl) rfl ?_
  show P_aw _ _ _ 4 [.ref (w.2.2 0), P_un] [] _ _
  refine P_aw_op (L' := [.ref (w.2.2 0), P_un]) (st' := [.ref (w.2.2 0)]) P_i162_4 rfl (show P_aw _ _ _ 5 [.ref (w.2.2 0), P_un] [.ref (w.2.2 0)] _ _ from ?_)
  refine P_aw_getR P_i162_5 (hw.2.1 0 (by decide)) (hw.s rfl) rfl rfl (show P_aw _ _ _ 8 [.ref (w.2.2 0), P_un] [.ref (w.2.2 6)] _ _ from ?_)
  refine P_aw_call P_i162_8 rfl rfl (fun _ => rfl) rfl rfl rfl rfl (y2 := 41) (as := [.ref (w.2.2 6)]) (r0 := []) (P_inv_v (hw.2.1 6 (by decide)) (hw.s rfl) rfl rfl) (Nat.le_of_ble_eq_true rfl) (by decide) rfl (Nat.le_of_ble_eq_true rfl) (show P_aw _ _ _ 0 [.ref (w.2.2 6), P_un, P_un] [] _ _ from ?_)
  refine P_aw_op (L' := [.ref (w.2.2 6), P_un, P_un]) (st' := [P_z 1]) P_i41_0 rfl (show P_aw _ _ _ 1 [.ref (w.2.2 6), P_un, P_un] [P_z 1] _ _ from ?_)
  refine P_aw_op (L' := [.ref (w.2.2 6), P_z 1, P_un]) (st' := []) P_i41_1 rfl (show P_aw _ _ _ 2 [.ref (w.2.2 6), P_z 1, P_un] [] _ _ from ?_)
  refine P_aw_op (L' := [.ref (w.2.2 6), P_z 1, P_un]) (st' := [P_z 0]) P_i41_2 rfl (show P_aw _ _ _ 3 [.ref (w.2.2 6), P_z 1, P_un] [P_z 0] _ _ from ?_)
  refine P_aw_op (L' := [.ref (w.2.2 6), P_z 1, P_z 0]) (st' := []) P_i41_3 rfl (show P_aw _ _ _ 4 [.ref (w.2.2 6), P_z 1, P_z 0] [] _ _ from ?_)
  refine P_aw_op (L' := [.ref (w.2.2 6), P_z 1, P_z 0]) (st' := [P_z 0]) P_i41_4 rfl (show P_aw _ _ _ 5 [.ref (w.2.2 6), P_z 1, P_z 0] [P_z 0] _ _ from ?_)
  refine P_aw_op (L' := [.ref (w.2.2 6), P_z 1, P_z 0]) (st' := [.ref (w.2.2 6), P_z 0]) P_i41_5 rfl (show P_aw _ _ _ 6 [.ref (w.2.2 6), P_z 1, P_z 0] [.ref (w.2.2 6), P_z 0] _ _ from ?_)
  refine P_aw_getv P_i41_6 (hw.2.1 6 (by decide)) (hw.s rfl) rfl rfl (hA.1) (show P_aw _ _ _ 9 [.ref (w.2.2 6), P_z 1, P_z 0] [P_z 1, P_z 0] _ _ from ?_)
  refine P_aw_icf P_i41_9 ⟨by decide, by decide⟩ ⟨by decide, by decide⟩ (P_ci_gef (by omega)) (show P_aw _ _ _ 12 [.ref (w.2.2 6), P_z 1, P_z 0] [] _ _ from ?_)
  refine P_aw_op (L' := [.ref (w.2.2 6), P_z 1, P_z 0]) (st' := [P_z 1]) P_i41_12 rfl (show P_aw _ _ _ 13 [.ref (w.2.2 6), P_z 1, P_z 0] [P_z 1] _ _ from ?_)
  refine P_aw_op (L' := [.ref (w.2.2 6), P_z 1, P_z 0]) (st' := [.ref (w.2.2 6), P_z 1]) P_i41_13 rfl (show P_aw _ _ _ 14 [.ref (w.2.2 6), P_z 1, P_z 0] [.ref (w.2.2 6), P_z 1] _ _ from ?_)
  refine P_aw_op (L' := [.ref (w.2.2 6), P_z 1, P_z 0]) (st' := [P_z 0, .ref (w.2.2 6), P_z 1]) P_i41_14 rfl (show P_aw _ _ _ 15 [.ref (w.2.2 6), P_z 1, P_z 0] [P_z 0, .ref (w.2.2 6), P_z 1] _ _ from ?_)
  refine P_aw_call P_i41_15 rfl rfl (fun _ => rfl) rfl rfl rfl rfl (y2 := 38) (as := [.ref (w.2.2 6), P_z 0]) (r0 := [P_z 1]) (P_inv_v (hw.2.1 6 (by decide)) (hw.s rfl) rfl rfl) (Nat.le_of_ble_eq_true rfl) (by decide) rfl (Nat.le_of_ble_eq_true rfl) (show P_aw _ _ _ 0 [.ref (w.2.2 6), P_z 0, P_un] [] _ _ from ?_)
  refine P_aw_op (L' := [.ref (w.2.2 6), P_z 0, P_un]) (st' := [P_z 0]) P_i38_0 rfl (show P_aw _ _ _ 1 [.ref (w.2.2 6), P_z 0, P_un] [P_z 0] _ _ from ?_)
  refine P_aw_izf P_i38_1 ⟨by decide, by decide⟩ (P_ci_ltf (by omega)) (show P_aw _ _ _ 4 [.ref (w.2.2 6), P_z 0, P_un] [] _ _ from ?_)
  refine P_aw_op (L' := [.ref (w.2.2 6), P_z 0, P_un]) (st' := [P_z 0]) P_i38_4 rfl (show P_aw _ _ _ 5 [.ref (w.2.2 6), P_z 0, P_un] [P_z 0] _ _ from ?_)
  refine P_aw_op (L' := [.ref (w.2.2 6), P_z 0, P_un]) (st' := [.ref (w.2.2 6), P_z 0]) P_i38_5 rfl (show P_aw _ _ _ 6 [.ref (w.2.2 6), P_z 0, P_un] [.ref (w.2.2 6), P_z 0] _ _ from ?_)
  refine P_aw_getv P_i38_6 (hw.2.1 6 (by decide)) (hw.s rfl) rfl rfl (hA.1) (show P_aw _ _ _ 9 [.ref (w.2.2 6), P_z 0, P_un] [P_z 1, P_z 0] _ _ from ?_)
  refine P_aw_icf P_i38_9 ⟨by decide, by decide⟩ ⟨by decide, by decide⟩ (P_ci_gef (by omega)) (show P_aw _ _ _ 12 [.ref (w.2.2 6), P_z 0, P_un] [] _ _ from ?_)
  refine P_aw_op (L' := [.ref (w.2.2 6), P_z 0, P_un]) (st' := [P_z 0]) P_i38_12 rfl (show P_aw _ _ _ 13 [.ref (w.2.2 6), P_z 0, P_un] [P_z 0] _ _ from ?_)
  refine P_aw_op (L' := [.ref (w.2.2 6), P_z 0, P_un]) (st' := [.ref (w.2.2 6), P_z 0]) P_i38_13 rfl (show P_aw _ _ _ 14 [.ref (w.2.2 6), P_z 0, P_un] [.ref (w.2.2 6), P_z 0] _ _ from ?_)
  refine P_aw_getR P_i38_14 (hw.2.1 6 (by decide)) (hw.s rfl) rfl rfl (show P_aw _ _ _ 17 [.ref (w.2.2 6), P_z 0, P_un] [.ref (w.2.2 9), P_z 0] _ _ from ?_)
  refine P_aw_rlen P_i38_17 (hw.2.1 9 (by decide)) (hw.s rfl) (show P_aw _ _ _ 18 [.ref (w.2.2 6), P_z 0, P_un] [P_z 3, P_z 0] _ _ from ?_)
  refine P_aw_ict P_i38_18 ⟨by decide, by decide⟩ ⟨by decide, by decide⟩ (P_ci_ltt (by omega)) (show P_aw _ _ _ 26 [.ref (w.2.2 6), P_z 0, P_un] [] _ _ from ?_)
  refine P_aw_op (L' := [.ref (w.2.2 6), P_z 0, P_un]) (st' := [.ref (w.2.2 6)]) P_i38_26 rfl (show P_aw _ _ _ 27 [.ref (w.2.2 6), P_z 0, P_un] [.ref (w.2.2 6)] _ _ from ?_)
  refine P_aw_getR P_i38_27 (hw.2.1 6 (by decide)) (hw.s rfl) rfl rfl (show P_aw _ _ _ 30 [.ref (w.2.2 6), P_z 0, P_un] [.ref (w.2.2 9)] _ _ from ?_)
  refine P_aw_op (L' := [.ref (w.2.2 6), P_z 0, P_un]) (st' := [P_z 0, .ref (w.2.2 9)]) P_i38_30 rfl (show P_aw _ _ _ 31 [.ref (w.2.2 6), P_z 0, P_un] [P_z 0, .ref (w.2.2 9)] _ _ from ?_)
  have hg1 := (hA.2.2 0 (by omega) (by omega)).2.1.1
  refine P_aw_rldv P_i38_31 (hw.2.1 9 (by decide)) (hw.s rfl) (by decide) (by omega) (by omega) (by decide) ((hA.2.2 0 (by omega) (by omega)).1) (by omega) (show P_aw _ _ _ 32 [.ref (w.2.2 6), P_z 0, P_un] [.ref (w.2.2 (tb 0))] _ _ from ?_)
  refine P_aw_op (L' := [.ref (w.2.2 6), P_z 0, .ref (w.2.2 (tb 0))]) (st' := []) P_i38_32 rfl (show P_aw _ _ _ 33 [.ref (w.2.2 6), P_z 0, .ref (w.2.2 (tb 0))] [] _ _ from ?_)
  refine P_aw_op (L' := [.ref (w.2.2 6), P_z 0, .ref (w.2.2 (tb 0))]) (st' := [.ref (w.2.2 (tb 0))]) P_i38_33 rfl (show P_aw _ _ _ 34 [.ref (w.2.2 6), P_z 0, .ref (w.2.2 (tb 0))] [.ref (w.2.2 (tb 0))] _ _ from ?_)
  refine P_aw_brt P_i38_34 rfl (show P_aw _ _ _ 44 [.ref (w.2.2 6), P_z 0, .ref (w.2.2 (tb 0))] [] _ _ from ?_)
  refine P_aw_op (L' := [.ref (w.2.2 6), P_z 0, .ref (w.2.2 (tb 0))]) (st' := [.ref (w.2.2 (tb 0))]) P_i38_44 rfl (show P_aw _ _ _ 45 [.ref (w.2.2 6), P_z 0, .ref (w.2.2 (tb 0))] [.ref (w.2.2 (tb 0))] _ _ from ?_)
  refine P_aw_end P_i38_45 rfl rfl (fun _ => rfl) rfl ?_
  show P_aw _ _ _ 18 [.ref (w.2.2 6), P_z 1, P_z 0] [.ref (w.2.2 (tb 0)), P_z 1] _ _
  refine P_aw_call P_i41_18 rfl rfl (fun _ => rfl) rfl rfl rfl rfl (y2 := 120) (as := [.ref (w.2.2 (tb 0))]) (r0 := [P_z 1]) (P_inv_v (hA.2.2 0 (by omega) (by omega)).2.1.2.1.2 (hA.2.2 0 (by omega) (by omega)).2.1.2.1.1 rfl rfl) (Nat.le_of_ble_eq_true rfl) (by decide) rfl (Nat.le_of_ble_eq_true rfl) (show P_aw _ _ _ 0 [.ref (w.2.2 (tb 0))] [] _ _ from ?_)
  refine P_aw_op (L' := [.ref (w.2.2 (tb 0))]) (st' := [.ref (w.2.2 (tb 0))]) P_i120_0 rfl (show P_aw _ _ _ 1 [.ref (w.2.2 (tb 0))] [.ref (w.2.2 (tb 0))] _ _ from ?_)
  have hg2 := (hA.2.2 0 (by omega) (by omega)).2.2.2.1
  refine P_aw_getv P_i120_1 (hA.2.2 0 (by omega) (by omega)).2.1.2.1.2 (hA.2.2 0 (by omega) (by omega)).2.1.2.1.1 rfl rfl ((hA.2.2 0 (by omega) (by omega)).2.2.1) (show P_aw _ _ _ 4 [.ref (w.2.2 (tb 0))] [P_z (rw 0)] _ _ from ?_)
  refine P_aw_end P_i120_4 rfl rfl (fun _ => rfl) rfl ?_
  show P_aw _ _ _ 21 [.ref (w.2.2 6), P_z 1, P_z 0] [P_z (rw 0), P_z 1] _ _
  refine P_aw_op (L' := [.ref (w.2.2 6), P_z 1, P_z 0]) (st' := [P_z (1 * (rw 0))]) P_i41_21 P_o_imul (show P_aw _ _ _ 22 [.ref (w.2.2 6), P_z 1, P_z 0] [P_z (1 * (rw 0))] _ _ from ?_)
  refine P_aw_op (L' := [.ref (w.2.2 6), P_z (1 * (rw 0)), P_z 0]) (st' := []) P_i41_22 rfl (show P_aw _ _ _ 23 [.ref (w.2.2 6), P_z (1 * (rw 0)), P_z 0] [] _ _ from ?_)
  refine P_aw_op (L' := [.ref (w.2.2 6), P_z (1 * (rw 0)), P_z 1]) (st' := []) P_i41_23 (P_o_iincv (x := 0) rfl (by decide)) (show P_aw _ _ _ 26 [.ref (w.2.2 6), P_z (1 * (rw 0)), P_z 1] [] _ _ from ?_)
  refine P_aw_goto P_i41_26 (show P_aw _ _ _ 4 [.ref (w.2.2 6), P_z (1 * (rw 0)), P_z 1] [] _ _ from ?_)
  refine P_aw_op (L' := [.ref (w.2.2 6), P_z (1 * (rw 0)), P_z 1]) (st' := [P_z 1]) P_i41_4 rfl (show P_aw _ _ _ 5 [.ref (w.2.2 6), P_z (1 * (rw 0)), P_z 1] [P_z 1] _ _ from ?_)
  refine P_aw_op (L' := [.ref (w.2.2 6), P_z (1 * (rw 0)), P_z 1]) (st' := [.ref (w.2.2 6), P_z 1]) P_i41_5 rfl (show P_aw _ _ _ 6 [.ref (w.2.2 6), P_z (1 * (rw 0)), P_z 1] [.ref (w.2.2 6), P_z 1] _ _ from ?_)
  refine P_aw_getv P_i41_6 (hw.2.1 6 (by decide)) (hw.s rfl) rfl rfl (hA.1) (show P_aw _ _ _ 9 [.ref (w.2.2 6), P_z (1 * (rw 0)), P_z 1] [P_z 1, P_z 1] _ _ from ?_)
  refine P_aw_ict P_i41_9 ⟨by decide, by decide⟩ ⟨by decide, by decide⟩ (P_ci_get (by omega)) (show P_aw _ _ _ 29 [.ref (w.2.2 6), P_z (1 * (rw 0)), P_z 1] [] _ _ from ?_)
  refine P_aw_op (L' := [.ref (w.2.2 6), P_z (1 * (rw 0)), P_z 1]) (st' := [P_z (1 * (rw 0))]) P_i41_29 rfl (show P_aw _ _ _ 30 [.ref (w.2.2 6), P_z (1 * (rw 0)), P_z 1] [P_z (1 * (rw 0))] _ _ from ?_)
  refine P_aw_end P_i41_30 rfl rfl (fun _ => rfl) rfl ?_
  show P_aw _ _ _ 11 [.ref (w.2.2 0), P_un] [P_z (1 * (rw 0))] _ _
  refine P_aw_op (L' := [.ref (w.2.2 0), P_z (1 * (rw 0))]) (st' := []) P_i162_11 rfl (show P_aw _ _ _ 12 [.ref (w.2.2 0), P_z (1 * (rw 0))] [] _ _ from ?_)
  refine P_aw_op (L' := [.ref (w.2.2 0), P_z (1 * (rw 0))]) (st' := [P_z (1 * (rw 0))]) P_i162_12 rfl (show P_aw _ _ _ 13 [.ref (w.2.2 0), P_z (1 * (rw 0))] [P_z (1 * (rw 0))] _ _ from ?_)
  by_cases hc3 : (1 * (rw 0)) = 0
  · refine P_aw_izt P_i162_13 ⟨by omega, by omega⟩ (P_ci_eqt (by omega)) (show P_aw _ _ _ 26 [.ref (w.2.2 0), P_z (1 * (rw 0))] [] _ _ from ?_)
    refine P_aw_op (L' := [.ref (w.2.2 0), P_z (1 * (rw 0))]) (st' := [.double (0 : UInt64)]) P_i162_26 rfl (show P_aw _ _ _ 27 [.ref (w.2.2 0), P_z (1 * (rw 0))] [.double (0 : UInt64)] _ _ from ?_)
    refine P_aw_end P_i162_27 rfl rfl (fun _ => rfl) rfl ?_
    exact q0 (by first | exact Or.inl (by omega) | exact Or.inr (by omega))
  · refine P_aw_izf P_i162_13 ⟨by omega, by omega⟩ (P_ci_eqf (by omega)) (show P_aw _ _ _ 16 [.ref (w.2.2 0), P_z (1 * (rw 0))] [] _ _ from ?_)
    refine P_aw_op (L' := [.ref (w.2.2 0), P_z (1 * (rw 0))]) (st' := [.ref (w.2.2 0)]) P_i162_16 rfl (show P_aw _ _ _ 17 [.ref (w.2.2 0), P_z (1 * (rw 0))] [.ref (w.2.2 0)] _ _ from ?_)
    refine P_aw_getR P_i162_17 (hw.2.1 0 (by decide)) (hw.s rfl) rfl rfl (show P_aw _ _ _ 20 [.ref (w.2.2 0), P_z (1 * (rw 0))] [.ref (w.2.2 13)] _ _ from ?_)
    refine P_aw_call P_i162_20 rfl rfl (fun _ => rfl) rfl rfl rfl rfl (y2 := 57) (as := [.ref (w.2.2 13)]) (r0 := []) (P_inv_v (hw.2.1 13 (by decide)) (hw.s rfl) rfl rfl) (Nat.le_of_ble_eq_true rfl) (by decide) rfl (Nat.le_of_ble_eq_true rfl) (show P_aw _ _ _ 0 [.ref (w.2.2 13)] [] _ _ from ?_)
    refine P_aw_op (L' := [.ref (w.2.2 13)]) (st' := [.ref (w.2.2 13)]) P_i57_0 rfl (show P_aw _ _ _ 1 [.ref (w.2.2 13)] [.ref (w.2.2 13)] _ _ from ?_)
    refine P_aw_getv P_i57_1 (hw.2.1 13 (by decide)) (hw.s rfl) rfl rfl (hN) (show P_aw _ _ _ 4 [.ref (w.2.2 13)] [P_z nv] _ _ from ?_)
    refine P_aw_end P_i57_4 rfl rfl (fun _ => rfl) (P_ret_b (by omega)) ?_
    show P_aw _ _ _ 23 [.ref (w.2.2 0), P_z (1 * (rw 0))] [P_z nv] _ _
    by_cases hc4 : nv = 0
    · refine P_aw_izt P_i162_23 ⟨by omega, by omega⟩ (P_ci_eqt (by omega)) (show P_aw _ _ _ 28 [.ref (w.2.2 0), P_z (1 * (rw 0))] [] _ _ from ?_)
      refine P_aw_op (L' := [.ref (w.2.2 0), P_z (1 * (rw 0))]) (st' := [.ref (w.2.2 0)]) P_i162_28 rfl (show P_aw _ _ _ 29 [.ref (w.2.2 0), P_z (1 * (rw 0))] [.ref (w.2.2 0)] _ _ from ?_)
      refine P_aw_getR P_i162_29 (hw.2.1 0 (by decide)) (hw.s rfl) rfl rfl (show P_aw _ _ _ 32 [.ref (w.2.2 0), P_z (1 * (rw 0))] [.ref (w.2.2 42)] _ _ from ?_)
      refine P_aw_op (L' := [.ref (w.2.2 0), P_z (1 * (rw 0))]) (st' := [P_z (-1), .ref (w.2.2 42)]) P_i162_32 rfl (show P_aw _ _ _ 33 [.ref (w.2.2 0), P_z (1 * (rw 0))] [P_z (-1), .ref (w.2.2 42)] _ _ from ?_)
      refine P_aw_op (L' := [.ref (w.2.2 0), P_z (1 * (rw 0))]) (st' := [P_z 1000000000, P_z (-1), .ref (w.2.2 42)]) P_i162_33 rfl (show P_aw _ _ _ 36 [.ref (w.2.2 0), P_z (1 * (rw 0))] [P_z 1000000000, P_z (-1), .ref (w.2.2 42)] _ _ from ?_)
      refine P_aw_call P_i162_36 rfl rfl (fun _ => rfl) rfl rfl rfl rfl (y2 := 133) (as := [.ref (w.2.2 42), P_z (-1), P_z 1000000000]) (r0 := []) (P_inv_v hl42 (hw.s rfl) rfl rfl) (Nat.le_of_ble_eq_true rfl) (by decide) rfl (Nat.le_of_ble_eq_true rfl) (s_walk42 (Inv := fun _ _ _ _ => True) (wo := (-1)) (most := 1000000000) hw hl42 hl43 (by omega) (by omega) hok htk (fun _ _ _ _ _ _ _ _ _ _ _ => trivial) (fun σ S a1 a2 a3 => s_cmt hw (a3 σ (fun _ _ => rfl) trivial)) hA hX hK hO (fun _ _ => trivial) (fun σ' z1 z2 z3 z4 => ?_))
      show P_aw _ _ _ 39 [.ref (w.2.2 0), P_z (1 * (rw 0))] [] _ _
      refine P_aw_op (L' := [.ref (w.2.2 0), P_z (1 * (rw 0))]) (st' := [.ref (w.2.2 0)]) P_i162_39 rfl (show P_aw _ _ _ 40 [.ref (w.2.2 0), P_z (1 * (rw 0))] [.ref (w.2.2 0)] _ _ from ?_)
      refine P_aw_getR P_i162_40 (hw.2.1 0 (by decide)) (hw.s rfl) rfl rfl (show P_aw _ _ _ 43 [.ref (w.2.2 0), P_z (1 * (rw 0))] [.ref (w.2.2 42)] _ _ from ?_)
      refine P_aw_call P_i162_43 rfl rfl (fun _ => rfl) rfl rfl rfl rfl (y2 := 131) (as := [.ref (w.2.2 42)]) (r0 := []) (P_inv_v hl42 (hw.s rfl) rfl rfl) (Nat.le_of_ble_eq_true rfl) (by decide) rfl (Nat.le_of_ble_eq_true rfl) (show P_aw _ _ _ 0 [.ref (w.2.2 42)] [] _ _ from ?_)
      refine P_aw_op (L' := [.ref (w.2.2 42)]) (st' := [.ref (w.2.2 42)]) P_i131_0 rfl (show P_aw _ _ _ 1 [.ref (w.2.2 42)] [.ref (w.2.2 42)] _ _ from ?_)
      refine P_aw_getv P_i131_1 hl42 (hw.s rfl) rfl rfl (z3.2.2.2.2.2.1) (show P_aw _ _ _ 4 [.ref (w.2.2 42)] [P_z (A_go 1000000000 (fun p ρ => A_hl (A_val V rw ρ) p (-1) cs 0) od rw (1 : Int).toNat 0 (fun _ => 0, 0, 0, 0)).2.2.2] _ _ from ?_)
      refine P_aw_end P_i131_4 rfl rfl (fun _ => rfl) rfl ?_
      show P_aw _ _ _ 46 [.ref (w.2.2 0), P_z (1 * (rw 0))] [P_z (A_go 1000000000 (fun p ρ => A_hl (A_val V rw ρ) p (-1) cs 0) od rw (1 : Int).toNat 0 (fun _ => 0, 0, 0, 0)).2.2.2] _ _
      refine P_aw_op (L' := [.ref (w.2.2 0), P_z (1 * (rw 0))]) (st' := [.double (FP.i2d (Int32.ofInt (A_go 1000000000 (fun p ρ => A_hl (A_val V rw ρ) p (-1) cs 0) od rw (1 : Int).toNat 0 (fun _ => 0, 0, 0, 0)).2.2.2))]) P_i162_46 P_o_i2d (show P_aw _ _ _ 47 [.ref (w.2.2 0), P_z (1 * (rw 0))] [.double (FP.i2d (Int32.ofInt (A_go 1000000000 (fun p ρ => A_hl (A_val V rw ρ) p (-1) cs 0) od rw (1 : Int).toNat 0 (fun _ => 0, 0, 0, 0)).2.2.2))] _ _ from ?_)
      refine P_aw_op (L' := [.ref (w.2.2 0), P_z (1 * (rw 0))]) (st' := [P_z (1 * (rw 0)), .double (FP.i2d (Int32.ofInt (A_go 1000000000 (fun p ρ => A_hl (A_val V rw ρ) p (-1) cs 0) od rw (1 : Int).toNat 0 (fun _ => 0, 0, 0, 0)).2.2.2))]) P_i162_47 rfl (show P_aw _ _ _ 48 [.ref (w.2.2 0), P_z (1 * (rw 0))] [P_z (1 * (rw 0)), .double (FP.i2d (Int32.ofInt (A_go 1000000000 (fun p ρ => A_hl (A_val V rw ρ) p (-1) cs 0) od rw (1 : Int).toNat 0 (fun _ => 0, 0, 0, 0)).2.2.2))] _ _ from ?_)
      refine P_aw_op (L' := [.ref (w.2.2 0), P_z (1 * (rw 0))]) (st' := [.double (FP.i2d (Int32.ofInt (1 * (rw 0)))), .double (FP.i2d (Int32.ofInt (A_go 1000000000 (fun p ρ => A_hl (A_val V rw ρ) p (-1) cs 0) od rw (1 : Int).toNat 0 (fun _ => 0, 0, 0, 0)).2.2.2))]) P_i162_48 P_o_i2d (show P_aw _ _ _ 49 [.ref (w.2.2 0), P_z (1 * (rw 0))] [.double (FP.i2d (Int32.ofInt (1 * (rw 0)))), .double (FP.i2d (Int32.ofInt (A_go 1000000000 (fun p ρ => A_hl (A_val V rw ρ) p (-1) cs 0) od rw (1 : Int).toNat 0 (fun _ => 0, 0, 0, 0)).2.2.2))] _ _ from ?_)
      refine P_aw_op (L' := [.ref (w.2.2 0), P_z (1 * (rw 0))]) (st' := [.double (FP.ddiv (FP.i2d (Int32.ofInt (A_go 1000000000 (fun p ρ => A_hl (A_val V rw ρ) p (-1) cs 0) od rw (1 : Int).toNat 0 (fun _ => 0, 0, 0, 0)).2.2.2)) (FP.i2d (Int32.ofInt (1 * (rw 0)))))]) P_i162_49 (P_o_ddiv (hdd (by omega))) (show P_aw _ _ _ 50 [.ref (w.2.2 0), P_z (1 * (rw 0))] [.double (FP.ddiv (FP.i2d (Int32.ofInt (A_go 1000000000 (fun p ρ => A_hl (A_val V rw ρ) p (-1) cs 0) od rw (1 : Int).toNat 0 (fun _ => 0, 0, 0, 0)).2.2.2)) (FP.i2d (Int32.ofInt (1 * (rw 0)))))] _ _ from ?_)
      refine P_aw_end P_i162_50 rfl rfl (fun _ => rfl) rfl ?_
      exact q (by omega) σ' z1
    · refine P_aw_izf P_i162_23 ⟨by omega, by omega⟩ (P_ci_eqf (by omega)) (show P_aw _ _ _ 26 [.ref (w.2.2 0), P_z (1 * (rw 0))] [] _ _ from ?_)
      refine P_aw_op (L' := [.ref (w.2.2 0), P_z (1 * (rw 0))]) (st' := [.double (0 : UInt64)]) P_i162_26 rfl (show P_aw _ _ _ 27 [.ref (w.2.2 0), P_z (1 * (rw 0))] [.double (0 : UInt64)] _ _ from ?_)
      refine P_aw_end P_i162_27 rfl rfl (fun _ => rfl) rfl ?_
      exact q0 (by first | exact Or.inl (by omega) | exact Or.inr (by omega))

theorem s_sha2 {w : P_Lw} (hw : P_Cw w) {d : Nat} {Q : P_R → P_A → Prop} {σ : P_A} {tb : Int → Nat} {rw : Int → Int} {vr : Int → Int → Int} {cl : Int → Int} {V : Int → Int → Int → Int} {cs : List A_cd} {od : Int → Int} {it : Int} {ki ci : Int → Int} {gp oi lm : Int} {nv : Int} (hB : A_B w σ 2 tb rw vr cl V cs od it ki ci gp oi lm nv) (hl42 : w.2.1 42 = true) (hl43 : w.2.1 43 = true) (hdd : ¬ (((1 * (rw 0)) * (rw 1)) = 0 ∨ nv = 1) → FP.ddiv (FP.i2d (Int32.ofInt (A_go 1000000000 (fun p ρ => A_hl (A_val V rw ρ) p (-1) cs 0) od rw (2 : Int).toNat 0 (fun _ => 0, 0, 0, 0)).2.2.2)) (FP.i2d (Int32.ofInt ((1 * (rw 0)) * (rw 1)))) &&& 0x7fffffffffffffff ≤ 0x7ff0000000000000) (q0 : ((1 * (rw 0)) * (rw 1)) = 0 ∨ nv = 1 → Q (.inl (some (.double (0 : UInt64)))) σ) (q : ¬ (((1 * (rw 0)) * (rw 1)) = 0 ∨ nv = 1) → ∀ σ', (∀ a b, ¬ (42 ≤ a ∧ a ≤ 43) → σ' a b = σ a b) → Q (.inl (some (.double (FP.ddiv (FP.i2d (Int32.ofInt (A_go 1000000000 (fun p ρ => A_hl (A_val V rw ρ) p (-1) cs 0) od rw (2 : Int).toNat 0 (fun _ => 0, 0, 0, 0)).2.2.2)) (FP.i2d (Int32.ofInt ((1 * (rw 0)) * (rw 1)))))))) σ') : P_aw w (d + 14) 162 0 [.ref (w.2.2 0), P_un] [] σ Q := by
  obtain ⟨hA, hX, hF, hK, hO, hok, htk, hN, hn01, hrd1, hfp⟩ := id hB
  have hns := hA.2.1
  have hit := hF.2.1
  have hsz0 := hK.2.1
  refine P_aw_op (L' := [.ref (w.2.2 0), P_un]) (st' := [.ref (w.2.2 0)]) P_i162_0 rfl (show P_aw _ _ _ 1 [.ref (w.2.2 0), P_un] [.ref (w.2.2 0)] _ _ from ?_)
  refine P_aw_call P_i162_1 rfl rfl (fun _ => rfl) rfl rfl rfl rfl (y2 := 168) (as := [.ref (w.2.2 0)]) (r0 := []) (P_inv_v (hw.2.1 0 (by decide)) (hw.s rfl) rfl rfl) (Nat.le_of_ble_eq_true rfl) (by decide) rfl (Nat.le_of_ble_eq_true rfl) (show P_aw _ _ _ 0 [.ref (w.2.2 0)] [] _ _ from ?_)
  refine P_aw_op (L' := [.ref (w.2.2 0)]) (st' := [.ref (w.2.2 0)]) P_i168_0 rfl (show P_aw _ _ _ 1 [.ref (w.2.2 0)] [.ref (w.2.2 0)] _ _ from ?_)
  refine P_aw_getR P_i168_1 (hw.2.1 0 (by decide)) (hw.s rfl) rfl rfl (show P_aw _ _ _ 4 [.ref (w.2.2 0)] [.ref (w.2.2 29)] _ _ from ?_)
  refine P_aw_call P_i168_4 rfl rfl (fun _ => rfl) rfl rfl rfl rfl (y2 := 92) (as := [.ref (w.2.2 29)]) (r0 := []) (P_inv_v (hw.2.1 29 (by decide)) (hw.s rfl) rfl rfl) (Nat.le_of_ble_eq_true rfl) (by decide) rfl (Nat.le_of_ble_eq_true rfl) (show P_aw _ _ _ 0 [.ref (w.2.2 29)] [] _ _ from ?_)
  refine P_aw_op (L' := [.ref (w.2.2 29)]) (st' := [.ref (w.2.2 29)]) P_i92_0 rfl (show P_aw _ _ _ 1 [.ref (w.2.2 29)] [.ref (w.2.2 29)] _ _ from ?_)
  refine P_aw_getv P_i92_1 (hw.2.1 29 (by decide)) (hw.s rfl) rfl rfl (hrd1) (show P_aw _ _ _ 4 [.ref (w.2.2 29)] [P_z 1] _ _ from ?_)
  refine P_aw_end P_i92_4 rfl rfl (fun _ => rfl) rfl ?_
  show P_aw _ _ _ 7 [.ref (w.2.2 0)] [P_z 1] _ _
  refine P_aw_izt P_i168_7 ⟨by decide, by decide⟩ (P_ci_net (by omega)) (show P_aw _ _ _ 21 [.ref (w.2.2 0)] [] _ _ from ?_)
  refine P_aw_end P_i168_21 rfl rfl (fun _ => rfl) rfl ?_
  show P_aw _ _ _ 4 [.ref (w.2.2 0), P_un] [] _ _
  refine P_aw_op (L' := [.ref (w.2.2 0), P_un]) (st' := [.ref (w.2.2 0)]) P_i162_4 rfl (show P_aw _ _ _ 5 [.ref (w.2.2 0), P_un] [.ref (w.2.2 0)] _ _ from ?_)
  refine P_aw_getR P_i162_5 (hw.2.1 0 (by decide)) (hw.s rfl) rfl rfl (show P_aw _ _ _ 8 [.ref (w.2.2 0), P_un] [.ref (w.2.2 6)] _ _ from ?_)
  refine P_aw_call P_i162_8 rfl rfl (fun _ => rfl) rfl rfl rfl rfl (y2 := 41) (as := [.ref (w.2.2 6)]) (r0 := []) (P_inv_v (hw.2.1 6 (by decide)) (hw.s rfl) rfl rfl) (Nat.le_of_ble_eq_true rfl) (by decide) rfl (Nat.le_of_ble_eq_true rfl) (show P_aw _ _ _ 0 [.ref (w.2.2 6), P_un, P_un] [] _ _ from ?_)
  refine P_aw_op (L' := [.ref (w.2.2 6), P_un, P_un]) (st' := [P_z 1]) P_i41_0 rfl (show P_aw _ _ _ 1 [.ref (w.2.2 6), P_un, P_un] [P_z 1] _ _ from ?_)
  refine P_aw_op (L' := [.ref (w.2.2 6), P_z 1, P_un]) (st' := []) P_i41_1 rfl (show P_aw _ _ _ 2 [.ref (w.2.2 6), P_z 1, P_un] [] _ _ from ?_)
  refine P_aw_op (L' := [.ref (w.2.2 6), P_z 1, P_un]) (st' := [P_z 0]) P_i41_2 rfl (show P_aw _ _ _ 3 [.ref (w.2.2 6), P_z 1, P_un] [P_z 0] _ _ from ?_)
  refine P_aw_op (L' := [.ref (w.2.2 6), P_z 1, P_z 0]) (st' := []) P_i41_3 rfl (show P_aw _ _ _ 4 [.ref (w.2.2 6), P_z 1, P_z 0] [] _ _ from ?_)
  refine P_aw_op (L' := [.ref (w.2.2 6), P_z 1, P_z 0]) (st' := [P_z 0]) P_i41_4 rfl (show P_aw _ _ _ 5 [.ref (w.2.2 6), P_z 1, P_z 0] [P_z 0] _ _ from ?_)
  refine P_aw_op (L' := [.ref (w.2.2 6), P_z 1, P_z 0]) (st' := [.ref (w.2.2 6), P_z 0]) P_i41_5 rfl (show P_aw _ _ _ 6 [.ref (w.2.2 6), P_z 1, P_z 0] [.ref (w.2.2 6), P_z 0] _ _ from ?_)
  refine P_aw_getv P_i41_6 (hw.2.1 6 (by decide)) (hw.s rfl) rfl rfl (hA.1) (show P_aw _ _ _ 9 [.ref (w.2.2 6), P_z 1, P_z 0] [P_z 2, P_z 0] _ _ from ?_)
  refine P_aw_icf P_i41_9 ⟨by decide, by decide⟩ ⟨by decide, by decide⟩ (P_ci_gef (by omega)) (show P_aw _ _ _ 12 [.ref (w.2.2 6), P_z 1, P_z 0] [] _ _ from ?_)
  refine P_aw_op (L' := [.ref (w.2.2 6), P_z 1, P_z 0]) (st' := [P_z 1]) P_i41_12 rfl (show P_aw _ _ _ 13 [.ref (w.2.2 6), P_z 1, P_z 0] [P_z 1] _ _ from ?_)
  refine P_aw_op (L' := [.ref (w.2.2 6), P_z 1, P_z 0]) (st' := [.ref (w.2.2 6), P_z 1]) P_i41_13 rfl (show P_aw _ _ _ 14 [.ref (w.2.2 6), P_z 1, P_z 0] [.ref (w.2.2 6), P_z 1] _ _ from ?_)
  refine P_aw_op (L' := [.ref (w.2.2 6), P_z 1, P_z 0]) (st' := [P_z 0, .ref (w.2.2 6), P_z 1]) P_i41_14 rfl (show P_aw _ _ _ 15 [.ref (w.2.2 6), P_z 1, P_z 0] [P_z 0, .ref (w.2.2 6), P_z 1] _ _ from ?_)
  refine P_aw_call P_i41_15 rfl rfl (fun _ => rfl) rfl rfl rfl rfl (y2 := 38) (as := [.ref (w.2.2 6), P_z 0]) (r0 := [P_z 1]) (P_inv_v (hw.2.1 6 (by decide)) (hw.s rfl) rfl rfl) (Nat.le_of_ble_eq_true rfl) (by decide) rfl (Nat.le_of_ble_eq_true rfl) (show P_aw _ _ _ 0 [.ref (w.2.2 6), P_z 0, P_un] [] _ _ from ?_)
  refine P_aw_op (L' := [.ref (w.2.2 6), P_z 0, P_un]) (st' := [P_z 0]) P_i38_0 rfl (show P_aw _ _ _ 1 [.ref (w.2.2 6), P_z 0, P_un] [P_z 0] _ _ from ?_)
  refine P_aw_izf P_i38_1 ⟨by decide, by decide⟩ (P_ci_ltf (by omega)) (show P_aw _ _ _ 4 [.ref (w.2.2 6), P_z 0, P_un] [] _ _ from ?_)
  refine P_aw_op (L' := [.ref (w.2.2 6), P_z 0, P_un]) (st' := [P_z 0]) P_i38_4 rfl (show P_aw _ _ _ 5 [.ref (w.2.2 6), P_z 0, P_un] [P_z 0] _ _ from ?_)
  refine P_aw_op (L' := [.ref (w.2.2 6), P_z 0, P_un]) (st' := [.ref (w.2.2 6), P_z 0]) P_i38_5 rfl (show P_aw _ _ _ 6 [.ref (w.2.2 6), P_z 0, P_un] [.ref (w.2.2 6), P_z 0] _ _ from ?_)
  refine P_aw_getv P_i38_6 (hw.2.1 6 (by decide)) (hw.s rfl) rfl rfl (hA.1) (show P_aw _ _ _ 9 [.ref (w.2.2 6), P_z 0, P_un] [P_z 2, P_z 0] _ _ from ?_)
  refine P_aw_icf P_i38_9 ⟨by decide, by decide⟩ ⟨by decide, by decide⟩ (P_ci_gef (by omega)) (show P_aw _ _ _ 12 [.ref (w.2.2 6), P_z 0, P_un] [] _ _ from ?_)
  refine P_aw_op (L' := [.ref (w.2.2 6), P_z 0, P_un]) (st' := [P_z 0]) P_i38_12 rfl (show P_aw _ _ _ 13 [.ref (w.2.2 6), P_z 0, P_un] [P_z 0] _ _ from ?_)
  refine P_aw_op (L' := [.ref (w.2.2 6), P_z 0, P_un]) (st' := [.ref (w.2.2 6), P_z 0]) P_i38_13 rfl (show P_aw _ _ _ 14 [.ref (w.2.2 6), P_z 0, P_un] [.ref (w.2.2 6), P_z 0] _ _ from ?_)
  refine P_aw_getR P_i38_14 (hw.2.1 6 (by decide)) (hw.s rfl) rfl rfl (show P_aw _ _ _ 17 [.ref (w.2.2 6), P_z 0, P_un] [.ref (w.2.2 9), P_z 0] _ _ from ?_)
  refine P_aw_rlen P_i38_17 (hw.2.1 9 (by decide)) (hw.s rfl) (show P_aw _ _ _ 18 [.ref (w.2.2 6), P_z 0, P_un] [P_z 3, P_z 0] _ _ from ?_)
  refine P_aw_ict P_i38_18 ⟨by decide, by decide⟩ ⟨by decide, by decide⟩ (P_ci_ltt (by omega)) (show P_aw _ _ _ 26 [.ref (w.2.2 6), P_z 0, P_un] [] _ _ from ?_)
  refine P_aw_op (L' := [.ref (w.2.2 6), P_z 0, P_un]) (st' := [.ref (w.2.2 6)]) P_i38_26 rfl (show P_aw _ _ _ 27 [.ref (w.2.2 6), P_z 0, P_un] [.ref (w.2.2 6)] _ _ from ?_)
  refine P_aw_getR P_i38_27 (hw.2.1 6 (by decide)) (hw.s rfl) rfl rfl (show P_aw _ _ _ 30 [.ref (w.2.2 6), P_z 0, P_un] [.ref (w.2.2 9)] _ _ from ?_)
  refine P_aw_op (L' := [.ref (w.2.2 6), P_z 0, P_un]) (st' := [P_z 0, .ref (w.2.2 9)]) P_i38_30 rfl (show P_aw _ _ _ 31 [.ref (w.2.2 6), P_z 0, P_un] [P_z 0, .ref (w.2.2 9)] _ _ from ?_)
  have hg1 := (hA.2.2 0 (by omega) (by omega)).2.1.1
  refine P_aw_rldv P_i38_31 (hw.2.1 9 (by decide)) (hw.s rfl) (by decide) (by omega) (by omega) (by decide) ((hA.2.2 0 (by omega) (by omega)).1) (by omega) (show P_aw _ _ _ 32 [.ref (w.2.2 6), P_z 0, P_un] [.ref (w.2.2 (tb 0))] _ _ from ?_)
  refine P_aw_op (L' := [.ref (w.2.2 6), P_z 0, .ref (w.2.2 (tb 0))]) (st' := []) P_i38_32 rfl (show P_aw _ _ _ 33 [.ref (w.2.2 6), P_z 0, .ref (w.2.2 (tb 0))] [] _ _ from ?_)
  refine P_aw_op (L' := [.ref (w.2.2 6), P_z 0, .ref (w.2.2 (tb 0))]) (st' := [.ref (w.2.2 (tb 0))]) P_i38_33 rfl (show P_aw _ _ _ 34 [.ref (w.2.2 6), P_z 0, .ref (w.2.2 (tb 0))] [.ref (w.2.2 (tb 0))] _ _ from ?_)
  refine P_aw_brt P_i38_34 rfl (show P_aw _ _ _ 44 [.ref (w.2.2 6), P_z 0, .ref (w.2.2 (tb 0))] [] _ _ from ?_)
  refine P_aw_op (L' := [.ref (w.2.2 6), P_z 0, .ref (w.2.2 (tb 0))]) (st' := [.ref (w.2.2 (tb 0))]) P_i38_44 rfl (show P_aw _ _ _ 45 [.ref (w.2.2 6), P_z 0, .ref (w.2.2 (tb 0))] [.ref (w.2.2 (tb 0))] _ _ from ?_)
  refine P_aw_end P_i38_45 rfl rfl (fun _ => rfl) rfl ?_
  show P_aw _ _ _ 18 [.ref (w.2.2 6), P_z 1, P_z 0] [.ref (w.2.2 (tb 0)), P_z 1] _ _
  refine P_aw_call P_i41_18 rfl rfl (fun _ => rfl) rfl rfl rfl rfl (y2 := 120) (as := [.ref (w.2.2 (tb 0))]) (r0 := [P_z 1]) (P_inv_v (hA.2.2 0 (by omega) (by omega)).2.1.2.1.2 (hA.2.2 0 (by omega) (by omega)).2.1.2.1.1 rfl rfl) (Nat.le_of_ble_eq_true rfl) (by decide) rfl (Nat.le_of_ble_eq_true rfl) (show P_aw _ _ _ 0 [.ref (w.2.2 (tb 0))] [] _ _ from ?_)
  refine P_aw_op (L' := [.ref (w.2.2 (tb 0))]) (st' := [.ref (w.2.2 (tb 0))]) P_i120_0 rfl (show P_aw _ _ _ 1 [.ref (w.2.2 (tb 0))] [.ref (w.2.2 (tb 0))] _ _ from ?_)
  have hg2 := (hA.2.2 0 (by omega) (by omega)).2.2.2.1
  refine P_aw_getv P_i120_1 (hA.2.2 0 (by omega) (by omega)).2.1.2.1.2 (hA.2.2 0 (by omega) (by omega)).2.1.2.1.1 rfl rfl ((hA.2.2 0 (by omega) (by omega)).2.2.1) (show P_aw _ _ _ 4 [.ref (w.2.2 (tb 0))] [P_z (rw 0)] _ _ from ?_)
  refine P_aw_end P_i120_4 rfl rfl (fun _ => rfl) rfl ?_
  show P_aw _ _ _ 21 [.ref (w.2.2 6), P_z 1, P_z 0] [P_z (rw 0), P_z 1] _ _
  refine P_aw_op (L' := [.ref (w.2.2 6), P_z 1, P_z 0]) (st' := [P_z (1 * (rw 0))]) P_i41_21 P_o_imul (show P_aw _ _ _ 22 [.ref (w.2.2 6), P_z 1, P_z 0] [P_z (1 * (rw 0))] _ _ from ?_)
  refine P_aw_op (L' := [.ref (w.2.2 6), P_z (1 * (rw 0)), P_z 0]) (st' := []) P_i41_22 rfl (show P_aw _ _ _ 23 [.ref (w.2.2 6), P_z (1 * (rw 0)), P_z 0] [] _ _ from ?_)
  refine P_aw_op (L' := [.ref (w.2.2 6), P_z (1 * (rw 0)), P_z 1]) (st' := []) P_i41_23 (P_o_iincv (x := 0) rfl (by decide)) (show P_aw _ _ _ 26 [.ref (w.2.2 6), P_z (1 * (rw 0)), P_z 1] [] _ _ from ?_)
  refine P_aw_goto P_i41_26 (show P_aw _ _ _ 4 [.ref (w.2.2 6), P_z (1 * (rw 0)), P_z 1] [] _ _ from ?_)
  refine P_aw_op (L' := [.ref (w.2.2 6), P_z (1 * (rw 0)), P_z 1]) (st' := [P_z 1]) P_i41_4 rfl (show P_aw _ _ _ 5 [.ref (w.2.2 6), P_z (1 * (rw 0)), P_z 1] [P_z 1] _ _ from ?_)
  refine P_aw_op (L' := [.ref (w.2.2 6), P_z (1 * (rw 0)), P_z 1]) (st' := [.ref (w.2.2 6), P_z 1]) P_i41_5 rfl (show P_aw _ _ _ 6 [.ref (w.2.2 6), P_z (1 * (rw 0)), P_z 1] [.ref (w.2.2 6), P_z 1] _ _ from ?_)
  refine P_aw_getv P_i41_6 (hw.2.1 6 (by decide)) (hw.s rfl) rfl rfl (hA.1) (show P_aw _ _ _ 9 [.ref (w.2.2 6), P_z (1 * (rw 0)), P_z 1] [P_z 2, P_z 1] _ _ from ?_)
  refine P_aw_icf P_i41_9 ⟨by decide, by decide⟩ ⟨by decide, by decide⟩ (P_ci_gef (by omega)) (show P_aw _ _ _ 12 [.ref (w.2.2 6), P_z (1 * (rw 0)), P_z 1] [] _ _ from ?_)
  refine P_aw_op (L' := [.ref (w.2.2 6), P_z (1 * (rw 0)), P_z 1]) (st' := [P_z (1 * (rw 0))]) P_i41_12 rfl (show P_aw _ _ _ 13 [.ref (w.2.2 6), P_z (1 * (rw 0)), P_z 1] [P_z (1 * (rw 0))] _ _ from ?_)
  refine P_aw_op (L' := [.ref (w.2.2 6), P_z (1 * (rw 0)), P_z 1]) (st' := [.ref (w.2.2 6), P_z (1 * (rw 0))]) P_i41_13 rfl (show P_aw _ _ _ 14 [.ref (w.2.2 6), P_z (1 * (rw 0)), P_z 1] [.ref (w.2.2 6), P_z (1 * (rw 0))] _ _ from ?_)
  refine P_aw_op (L' := [.ref (w.2.2 6), P_z (1 * (rw 0)), P_z 1]) (st' := [P_z 1, .ref (w.2.2 6), P_z (1 * (rw 0))]) P_i41_14 rfl (show P_aw _ _ _ 15 [.ref (w.2.2 6), P_z (1 * (rw 0)), P_z 1] [P_z 1, .ref (w.2.2 6), P_z (1 * (rw 0))] _ _ from ?_)
  refine P_aw_call P_i41_15 rfl rfl (fun _ => rfl) rfl rfl rfl rfl (y2 := 38) (as := [.ref (w.2.2 6), P_z 1]) (r0 := [P_z (1 * (rw 0))]) (P_inv_v (hw.2.1 6 (by decide)) (hw.s rfl) rfl rfl) (Nat.le_of_ble_eq_true rfl) (by decide) rfl (Nat.le_of_ble_eq_true rfl) (show P_aw _ _ _ 0 [.ref (w.2.2 6), P_z 1, P_un] [] _ _ from ?_)
  refine P_aw_op (L' := [.ref (w.2.2 6), P_z 1, P_un]) (st' := [P_z 1]) P_i38_0 rfl (show P_aw _ _ _ 1 [.ref (w.2.2 6), P_z 1, P_un] [P_z 1] _ _ from ?_)
  refine P_aw_izf P_i38_1 ⟨by decide, by decide⟩ (P_ci_ltf (by omega)) (show P_aw _ _ _ 4 [.ref (w.2.2 6), P_z 1, P_un] [] _ _ from ?_)
  refine P_aw_op (L' := [.ref (w.2.2 6), P_z 1, P_un]) (st' := [P_z 1]) P_i38_4 rfl (show P_aw _ _ _ 5 [.ref (w.2.2 6), P_z 1, P_un] [P_z 1] _ _ from ?_)
  refine P_aw_op (L' := [.ref (w.2.2 6), P_z 1, P_un]) (st' := [.ref (w.2.2 6), P_z 1]) P_i38_5 rfl (show P_aw _ _ _ 6 [.ref (w.2.2 6), P_z 1, P_un] [.ref (w.2.2 6), P_z 1] _ _ from ?_)
  refine P_aw_getv P_i38_6 (hw.2.1 6 (by decide)) (hw.s rfl) rfl rfl (hA.1) (show P_aw _ _ _ 9 [.ref (w.2.2 6), P_z 1, P_un] [P_z 2, P_z 1] _ _ from ?_)
  refine P_aw_icf P_i38_9 ⟨by decide, by decide⟩ ⟨by decide, by decide⟩ (P_ci_gef (by omega)) (show P_aw _ _ _ 12 [.ref (w.2.2 6), P_z 1, P_un] [] _ _ from ?_)
  refine P_aw_op (L' := [.ref (w.2.2 6), P_z 1, P_un]) (st' := [P_z 1]) P_i38_12 rfl (show P_aw _ _ _ 13 [.ref (w.2.2 6), P_z 1, P_un] [P_z 1] _ _ from ?_)
  refine P_aw_op (L' := [.ref (w.2.2 6), P_z 1, P_un]) (st' := [.ref (w.2.2 6), P_z 1]) P_i38_13 rfl (show P_aw _ _ _ 14 [.ref (w.2.2 6), P_z 1, P_un] [.ref (w.2.2 6), P_z 1] _ _ from ?_)
  refine P_aw_getR P_i38_14 (hw.2.1 6 (by decide)) (hw.s rfl) rfl rfl (show P_aw _ _ _ 17 [.ref (w.2.2 6), P_z 1, P_un] [.ref (w.2.2 9), P_z 1] _ _ from ?_)
  refine P_aw_rlen P_i38_17 (hw.2.1 9 (by decide)) (hw.s rfl) (show P_aw _ _ _ 18 [.ref (w.2.2 6), P_z 1, P_un] [P_z 3, P_z 1] _ _ from ?_)
  refine P_aw_ict P_i38_18 ⟨by decide, by decide⟩ ⟨by decide, by decide⟩ (P_ci_ltt (by omega)) (show P_aw _ _ _ 26 [.ref (w.2.2 6), P_z 1, P_un] [] _ _ from ?_)
  refine P_aw_op (L' := [.ref (w.2.2 6), P_z 1, P_un]) (st' := [.ref (w.2.2 6)]) P_i38_26 rfl (show P_aw _ _ _ 27 [.ref (w.2.2 6), P_z 1, P_un] [.ref (w.2.2 6)] _ _ from ?_)
  refine P_aw_getR P_i38_27 (hw.2.1 6 (by decide)) (hw.s rfl) rfl rfl (show P_aw _ _ _ 30 [.ref (w.2.2 6), P_z 1, P_un] [.ref (w.2.2 9)] _ _ from ?_)
  refine P_aw_op (L' := [.ref (w.2.2 6), P_z 1, P_un]) (st' := [P_z 1, .ref (w.2.2 9)]) P_i38_30 rfl (show P_aw _ _ _ 31 [.ref (w.2.2 6), P_z 1, P_un] [P_z 1, .ref (w.2.2 9)] _ _ from ?_)
  have hg3 := (hA.2.2 1 (by omega) (by omega)).2.1.1
  refine P_aw_rldv P_i38_31 (hw.2.1 9 (by decide)) (hw.s rfl) (by decide) (by omega) (by omega) (by decide) ((hA.2.2 1 (by omega) (by omega)).1) (by omega) (show P_aw _ _ _ 32 [.ref (w.2.2 6), P_z 1, P_un] [.ref (w.2.2 (tb 1))] _ _ from ?_)
  refine P_aw_op (L' := [.ref (w.2.2 6), P_z 1, .ref (w.2.2 (tb 1))]) (st' := []) P_i38_32 rfl (show P_aw _ _ _ 33 [.ref (w.2.2 6), P_z 1, .ref (w.2.2 (tb 1))] [] _ _ from ?_)
  refine P_aw_op (L' := [.ref (w.2.2 6), P_z 1, .ref (w.2.2 (tb 1))]) (st' := [.ref (w.2.2 (tb 1))]) P_i38_33 rfl (show P_aw _ _ _ 34 [.ref (w.2.2 6), P_z 1, .ref (w.2.2 (tb 1))] [.ref (w.2.2 (tb 1))] _ _ from ?_)
  refine P_aw_brt P_i38_34 rfl (show P_aw _ _ _ 44 [.ref (w.2.2 6), P_z 1, .ref (w.2.2 (tb 1))] [] _ _ from ?_)
  refine P_aw_op (L' := [.ref (w.2.2 6), P_z 1, .ref (w.2.2 (tb 1))]) (st' := [.ref (w.2.2 (tb 1))]) P_i38_44 rfl (show P_aw _ _ _ 45 [.ref (w.2.2 6), P_z 1, .ref (w.2.2 (tb 1))] [.ref (w.2.2 (tb 1))] _ _ from ?_)
  refine P_aw_end P_i38_45 rfl rfl (fun _ => rfl) rfl ?_
  show P_aw _ _ _ 18 [.ref (w.2.2 6), P_z (1 * (rw 0)), P_z 1] [.ref (w.2.2 (tb 1)), P_z (1 * (rw 0))] _ _
  refine P_aw_call P_i41_18 rfl rfl (fun _ => rfl) rfl rfl rfl rfl (y2 := 120) (as := [.ref (w.2.2 (tb 1))]) (r0 := [P_z (1 * (rw 0))]) (P_inv_v (hA.2.2 1 (by omega) (by omega)).2.1.2.1.2 (hA.2.2 1 (by omega) (by omega)).2.1.2.1.1 rfl rfl) (Nat.le_of_ble_eq_true rfl) (by decide) rfl (Nat.le_of_ble_eq_true rfl) (show P_aw _ _ _ 0 [.ref (w.2.2 (tb 1))] [] _ _ from ?_)
  refine P_aw_op (L' := [.ref (w.2.2 (tb 1))]) (st' := [.ref (w.2.2 (tb 1))]) P_i120_0 rfl (show P_aw _ _ _ 1 [.ref (w.2.2 (tb 1))] [.ref (w.2.2 (tb 1))] _ _ from ?_)
  have hg4 := (hA.2.2 1 (by omega) (by omega)).2.2.2.1
  refine P_aw_getv P_i120_1 (hA.2.2 1 (by omega) (by omega)).2.1.2.1.2 (hA.2.2 1 (by omega) (by omega)).2.1.2.1.1 rfl rfl ((hA.2.2 1 (by omega) (by omega)).2.2.1) (show P_aw _ _ _ 4 [.ref (w.2.2 (tb 1))] [P_z (rw 1)] _ _ from ?_)
  refine P_aw_end P_i120_4 rfl rfl (fun _ => rfl) rfl ?_
  show P_aw _ _ _ 21 [.ref (w.2.2 6), P_z (1 * (rw 0)), P_z 1] [P_z (rw 1), P_z (1 * (rw 0))] _ _
  have hm5 : 0 ≤ ((1 * (rw 0)) * (rw 1)) ∧ ((1 * (rw 0)) * (rw 1)) ≤ (1 * (rw 0)) * 14 := A_mb (by omega) (by omega) (by omega)
  refine P_aw_op (L' := [.ref (w.2.2 6), P_z (1 * (rw 0)), P_z 1]) (st' := [P_z ((1 * (rw 0)) * (rw 1))]) P_i41_21 P_o_imul (show P_aw _ _ _ 22 [.ref (w.2.2 6), P_z (1 * (rw 0)), P_z 1] [P_z ((1 * (rw 0)) * (rw 1))] _ _ from ?_)
  refine P_aw_op (L' := [.ref (w.2.2 6), P_z ((1 * (rw 0)) * (rw 1)), P_z 1]) (st' := []) P_i41_22 rfl (show P_aw _ _ _ 23 [.ref (w.2.2 6), P_z ((1 * (rw 0)) * (rw 1)), P_z 1] [] _ _ from ?_)
  refine P_aw_op (L' := [.ref (w.2.2 6), P_z ((1 * (rw 0)) * (rw 1)), P_z 2]) (st' := []) P_i41_23 (P_o_iincv (x := 1) rfl (by decide)) (show P_aw _ _ _ 26 [.ref (w.2.2 6), P_z ((1 * (rw 0)) * (rw 1)), P_z 2] [] _ _ from ?_)
  refine P_aw_goto P_i41_26 (show P_aw _ _ _ 4 [.ref (w.2.2 6), P_z ((1 * (rw 0)) * (rw 1)), P_z 2] [] _ _ from ?_)
  refine P_aw_op (L' := [.ref (w.2.2 6), P_z ((1 * (rw 0)) * (rw 1)), P_z 2]) (st' := [P_z 2]) P_i41_4 rfl (show P_aw _ _ _ 5 [.ref (w.2.2 6), P_z ((1 * (rw 0)) * (rw 1)), P_z 2] [P_z 2] _ _ from ?_)
  refine P_aw_op (L' := [.ref (w.2.2 6), P_z ((1 * (rw 0)) * (rw 1)), P_z 2]) (st' := [.ref (w.2.2 6), P_z 2]) P_i41_5 rfl (show P_aw _ _ _ 6 [.ref (w.2.2 6), P_z ((1 * (rw 0)) * (rw 1)), P_z 2] [.ref (w.2.2 6), P_z 2] _ _ from ?_)
  refine P_aw_getv P_i41_6 (hw.2.1 6 (by decide)) (hw.s rfl) rfl rfl (hA.1) (show P_aw _ _ _ 9 [.ref (w.2.2 6), P_z ((1 * (rw 0)) * (rw 1)), P_z 2] [P_z 2, P_z 2] _ _ from ?_)
  refine P_aw_ict P_i41_9 ⟨by decide, by decide⟩ ⟨by decide, by decide⟩ (P_ci_get (by omega)) (show P_aw _ _ _ 29 [.ref (w.2.2 6), P_z ((1 * (rw 0)) * (rw 1)), P_z 2] [] _ _ from ?_)
  refine P_aw_op (L' := [.ref (w.2.2 6), P_z ((1 * (rw 0)) * (rw 1)), P_z 2]) (st' := [P_z ((1 * (rw 0)) * (rw 1))]) P_i41_29 rfl (show P_aw _ _ _ 30 [.ref (w.2.2 6), P_z ((1 * (rw 0)) * (rw 1)), P_z 2] [P_z ((1 * (rw 0)) * (rw 1))] _ _ from ?_)
  refine P_aw_end P_i41_30 rfl rfl (fun _ => rfl) rfl ?_
  show P_aw _ _ _ 11 [.ref (w.2.2 0), P_un] [P_z ((1 * (rw 0)) * (rw 1))] _ _
  refine P_aw_op (L' := [.ref (w.2.2 0), P_z ((1 * (rw 0)) * (rw 1))]) (st' := []) P_i162_11 rfl (show P_aw _ _ _ 12 [.ref (w.2.2 0), P_z ((1 * (rw 0)) * (rw 1))] [] _ _ from ?_)
  refine P_aw_op (L' := [.ref (w.2.2 0), P_z ((1 * (rw 0)) * (rw 1))]) (st' := [P_z ((1 * (rw 0)) * (rw 1))]) P_i162_12 rfl (show P_aw _ _ _ 13 [.ref (w.2.2 0), P_z ((1 * (rw 0)) * (rw 1))] [P_z ((1 * (rw 0)) * (rw 1))] _ _ from ?_)
  by_cases hc6 : ((1 * (rw 0)) * (rw 1)) = 0
  · refine P_aw_izt P_i162_13 ⟨by omega, by omega⟩ (P_ci_eqt (by omega)) (show P_aw _ _ _ 26 [.ref (w.2.2 0), P_z ((1 * (rw 0)) * (rw 1))] [] _ _ from ?_)
    refine P_aw_op (L' := [.ref (w.2.2 0), P_z ((1 * (rw 0)) * (rw 1))]) (st' := [.double (0 : UInt64)]) P_i162_26 rfl (show P_aw _ _ _ 27 [.ref (w.2.2 0), P_z ((1 * (rw 0)) * (rw 1))] [.double (0 : UInt64)] _ _ from ?_)
    refine P_aw_end P_i162_27 rfl rfl (fun _ => rfl) rfl ?_
    exact q0 (by first | exact Or.inl (by omega) | exact Or.inr (by omega))
  · refine P_aw_izf P_i162_13 ⟨by omega, by omega⟩ (P_ci_eqf (by omega)) (show P_aw _ _ _ 16 [.ref (w.2.2 0), P_z ((1 * (rw 0)) * (rw 1))] [] _ _ from ?_)
    refine P_aw_op (L' := [.ref (w.2.2 0), P_z ((1 * (rw 0)) * (rw 1))]) (st' := [.ref (w.2.2 0)]) P_i162_16 rfl (show P_aw _ _ _ 17 [.ref (w.2.2 0), P_z ((1 * (rw 0)) * (rw 1))] [.ref (w.2.2 0)] _ _ from ?_)
    refine P_aw_getR P_i162_17 (hw.2.1 0 (by decide)) (hw.s rfl) rfl rfl (show P_aw _ _ _ 20 [.ref (w.2.2 0), P_z ((1 * (rw 0)) * (rw 1))] [.ref (w.2.2 13)] _ _ from ?_)
    refine P_aw_call P_i162_20 rfl rfl (fun _ => rfl) rfl rfl rfl rfl (y2 := 57) (as := [.ref (w.2.2 13)]) (r0 := []) (P_inv_v (hw.2.1 13 (by decide)) (hw.s rfl) rfl rfl) (Nat.le_of_ble_eq_true rfl) (by decide) rfl (Nat.le_of_ble_eq_true rfl) (show P_aw _ _ _ 0 [.ref (w.2.2 13)] [] _ _ from ?_)
    refine P_aw_op (L' := [.ref (w.2.2 13)]) (st' := [.ref (w.2.2 13)]) P_i57_0 rfl (show P_aw _ _ _ 1 [.ref (w.2.2 13)] [.ref (w.2.2 13)] _ _ from ?_)
    refine P_aw_getv P_i57_1 (hw.2.1 13 (by decide)) (hw.s rfl) rfl rfl (hN) (show P_aw _ _ _ 4 [.ref (w.2.2 13)] [P_z nv] _ _ from ?_)
    refine P_aw_end P_i57_4 rfl rfl (fun _ => rfl) (P_ret_b (by omega)) ?_
    show P_aw _ _ _ 23 [.ref (w.2.2 0), P_z ((1 * (rw 0)) * (rw 1))] [P_z nv] _ _
    by_cases hc7 : nv = 0
    · refine P_aw_izt P_i162_23 ⟨by omega, by omega⟩ (P_ci_eqt (by omega)) (show P_aw _ _ _ 28 [.ref (w.2.2 0), P_z ((1 * (rw 0)) * (rw 1))] [] _ _ from ?_)
      refine P_aw_op (L' := [.ref (w.2.2 0), P_z ((1 * (rw 0)) * (rw 1))]) (st' := [.ref (w.2.2 0)]) P_i162_28 rfl (show P_aw _ _ _ 29 [.ref (w.2.2 0), P_z ((1 * (rw 0)) * (rw 1))] [.ref (w.2.2 0)] _ _ from ?_)
      refine P_aw_getR P_i162_29 (hw.2.1 0 (by decide)) (hw.s rfl) rfl rfl (show P_aw _ _ _ 32 [.ref (w.2.2 0), P_z ((1 * (rw 0)) * (rw 1))] [.ref (w.2.2 42)] _ _ from ?_)
      refine P_aw_op (L' := [.ref (w.2.2 0), P_z ((1 * (rw 0)) * (rw 1))]) (st' := [P_z (-1), .ref (w.2.2 42)]) P_i162_32 rfl (show P_aw _ _ _ 33 [.ref (w.2.2 0), P_z ((1 * (rw 0)) * (rw 1))] [P_z (-1), .ref (w.2.2 42)] _ _ from ?_)
      refine P_aw_op (L' := [.ref (w.2.2 0), P_z ((1 * (rw 0)) * (rw 1))]) (st' := [P_z 1000000000, P_z (-1), .ref (w.2.2 42)]) P_i162_33 rfl (show P_aw _ _ _ 36 [.ref (w.2.2 0), P_z ((1 * (rw 0)) * (rw 1))] [P_z 1000000000, P_z (-1), .ref (w.2.2 42)] _ _ from ?_)
      refine P_aw_call P_i162_36 rfl rfl (fun _ => rfl) rfl rfl rfl rfl (y2 := 133) (as := [.ref (w.2.2 42), P_z (-1), P_z 1000000000]) (r0 := []) (P_inv_v hl42 (hw.s rfl) rfl rfl) (Nat.le_of_ble_eq_true rfl) (by decide) rfl (Nat.le_of_ble_eq_true rfl) (s_walk42 (Inv := fun _ _ _ _ => True) (wo := (-1)) (most := 1000000000) hw hl42 hl43 (by omega) (by omega) hok htk (fun _ _ _ _ _ _ _ _ _ _ _ => trivial) (fun σ S a1 a2 a3 => s_cmt hw (a3 σ (fun _ _ => rfl) trivial)) hA hX hK hO (fun _ _ => trivial) (fun σ' z1 z2 z3 z4 => ?_))
      show P_aw _ _ _ 39 [.ref (w.2.2 0), P_z ((1 * (rw 0)) * (rw 1))] [] _ _
      refine P_aw_op (L' := [.ref (w.2.2 0), P_z ((1 * (rw 0)) * (rw 1))]) (st' := [.ref (w.2.2 0)]) P_i162_39 rfl (show P_aw _ _ _ 40 [.ref (w.2.2 0), P_z ((1 * (rw 0)) * (rw 1))] [.ref (w.2.2 0)] _ _ from ?_)
      refine P_aw_getR P_i162_40 (hw.2.1 0 (by decide)) (hw.s rfl) rfl rfl (show P_aw _ _ _ 43 [.ref (w.2.2 0), P_z ((1 * (rw 0)) * (rw 1))] [.ref (w.2.2 42)] _ _ from ?_)
      refine P_aw_call P_i162_43 rfl rfl (fun _ => rfl) rfl rfl rfl rfl (y2 := 131) (as := [.ref (w.2.2 42)]) (r0 := []) (P_inv_v hl42 (hw.s rfl) rfl rfl) (Nat.le_of_ble_eq_true rfl) (by decide) rfl (Nat.le_of_ble_eq_true rfl) (show P_aw _ _ _ 0 [.ref (w.2.2 42)] [] _ _ from ?_)
      refine P_aw_op (L' := [.ref (w.2.2 42)]) (st' := [.ref (w.2.2 42)]) P_i131_0 rfl (show P_aw _ _ _ 1 [.ref (w.2.2 42)] [.ref (w.2.2 42)] _ _ from ?_)
      refine P_aw_getv P_i131_1 hl42 (hw.s rfl) rfl rfl (z3.2.2.2.2.2.1) (show P_aw _ _ _ 4 [.ref (w.2.2 42)] [P_z (A_go 1000000000 (fun p ρ => A_hl (A_val V rw ρ) p (-1) cs 0) od rw (2 : Int).toNat 0 (fun _ => 0, 0, 0, 0)).2.2.2] _ _ from ?_)
      refine P_aw_end P_i131_4 rfl rfl (fun _ => rfl) rfl ?_
      show P_aw _ _ _ 46 [.ref (w.2.2 0), P_z ((1 * (rw 0)) * (rw 1))] [P_z (A_go 1000000000 (fun p ρ => A_hl (A_val V rw ρ) p (-1) cs 0) od rw (2 : Int).toNat 0 (fun _ => 0, 0, 0, 0)).2.2.2] _ _
      refine P_aw_op (L' := [.ref (w.2.2 0), P_z ((1 * (rw 0)) * (rw 1))]) (st' := [.double (FP.i2d (Int32.ofInt (A_go 1000000000 (fun p ρ => A_hl (A_val V rw ρ) p (-1) cs 0) od rw (2 : Int).toNat 0 (fun _ => 0, 0, 0, 0)).2.2.2))]) P_i162_46 P_o_i2d (show P_aw _ _ _ 47 [.ref (w.2.2 0), P_z ((1 * (rw 0)) * (rw 1))] [.double (FP.i2d (Int32.ofInt (A_go 1000000000 (fun p ρ => A_hl (A_val V rw ρ) p (-1) cs 0) od rw (2 : Int).toNat 0 (fun _ => 0, 0, 0, 0)).2.2.2))] _ _ from ?_)
      refine P_aw_op (L' := [.ref (w.2.2 0), P_z ((1 * (rw 0)) * (rw 1))]) (st' := [P_z ((1 * (rw 0)) * (rw 1)), .double (FP.i2d (Int32.ofInt (A_go 1000000000 (fun p ρ => A_hl (A_val V rw ρ) p (-1) cs 0) od rw (2 : Int).toNat 0 (fun _ => 0, 0, 0, 0)).2.2.2))]) P_i162_47 rfl (show P_aw _ _ _ 48 [.ref (w.2.2 0), P_z ((1 * (rw 0)) * (rw 1))] [P_z ((1 * (rw 0)) * (rw 1)), .double (FP.i2d (Int32.ofInt (A_go 1000000000 (fun p ρ => A_hl (A_val V rw ρ) p (-1) cs 0) od rw (2 : Int).toNat 0 (fun _ => 0, 0, 0, 0)).2.2.2))] _ _ from ?_)
      refine P_aw_op (L' := [.ref (w.2.2 0), P_z ((1 * (rw 0)) * (rw 1))]) (st' := [.double (FP.i2d (Int32.ofInt ((1 * (rw 0)) * (rw 1)))), .double (FP.i2d (Int32.ofInt (A_go 1000000000 (fun p ρ => A_hl (A_val V rw ρ) p (-1) cs 0) od rw (2 : Int).toNat 0 (fun _ => 0, 0, 0, 0)).2.2.2))]) P_i162_48 P_o_i2d (show P_aw _ _ _ 49 [.ref (w.2.2 0), P_z ((1 * (rw 0)) * (rw 1))] [.double (FP.i2d (Int32.ofInt ((1 * (rw 0)) * (rw 1)))), .double (FP.i2d (Int32.ofInt (A_go 1000000000 (fun p ρ => A_hl (A_val V rw ρ) p (-1) cs 0) od rw (2 : Int).toNat 0 (fun _ => 0, 0, 0, 0)).2.2.2))] _ _ from ?_)
      refine P_aw_op (L' := [.ref (w.2.2 0), P_z ((1 * (rw 0)) * (rw 1))]) (st' := [.double (FP.ddiv (FP.i2d (Int32.ofInt (A_go 1000000000 (fun p ρ => A_hl (A_val V rw ρ) p (-1) cs 0) od rw (2 : Int).toNat 0 (fun _ => 0, 0, 0, 0)).2.2.2)) (FP.i2d (Int32.ofInt ((1 * (rw 0)) * (rw 1)))))]) P_i162_49 (P_o_ddiv (hdd (by omega))) (show P_aw _ _ _ 50 [.ref (w.2.2 0), P_z ((1 * (rw 0)) * (rw 1))] [.double (FP.ddiv (FP.i2d (Int32.ofInt (A_go 1000000000 (fun p ρ => A_hl (A_val V rw ρ) p (-1) cs 0) od rw (2 : Int).toNat 0 (fun _ => 0, 0, 0, 0)).2.2.2)) (FP.i2d (Int32.ofInt ((1 * (rw 0)) * (rw 1)))))] _ _ from ?_)
      refine P_aw_end P_i162_50 rfl rfl (fun _ => rfl) rfl ?_
      exact q (by omega) σ' z1
    · refine P_aw_izf P_i162_23 ⟨by omega, by omega⟩ (P_ci_eqf (by omega)) (show P_aw _ _ _ 26 [.ref (w.2.2 0), P_z ((1 * (rw 0)) * (rw 1))] [] _ _ from ?_)
      refine P_aw_op (L' := [.ref (w.2.2 0), P_z ((1 * (rw 0)) * (rw 1))]) (st' := [.double (0 : UInt64)]) P_i162_26 rfl (show P_aw _ _ _ 27 [.ref (w.2.2 0), P_z ((1 * (rw 0)) * (rw 1))] [.double (0 : UInt64)] _ _ from ?_)
      refine P_aw_end P_i162_27 rfl rfl (fun _ => rfl) rfl ?_
      exact q0 (by first | exact Or.inl (by omega) | exact Or.inr (by omega))

theorem s_sha3 {w : P_Lw} (hw : P_Cw w) {d : Nat} {Q : P_R → P_A → Prop} {σ : P_A} {tb : Int → Nat} {rw : Int → Int} {vr : Int → Int → Int} {cl : Int → Int} {V : Int → Int → Int → Int} {cs : List A_cd} {od : Int → Int} {it : Int} {ki ci : Int → Int} {gp oi lm : Int} {nv : Int} (hB : A_B w σ 3 tb rw vr cl V cs od it ki ci gp oi lm nv) (hl42 : w.2.1 42 = true) (hl43 : w.2.1 43 = true) (hdd : ¬ ((((1 * (rw 0)) * (rw 1)) * (rw 2)) = 0 ∨ nv = 1) → FP.ddiv (FP.i2d (Int32.ofInt (A_go 1000000000 (fun p ρ => A_hl (A_val V rw ρ) p (-1) cs 0) od rw (3 : Int).toNat 0 (fun _ => 0, 0, 0, 0)).2.2.2)) (FP.i2d (Int32.ofInt (((1 * (rw 0)) * (rw 1)) * (rw 2)))) &&& 0x7fffffffffffffff ≤ 0x7ff0000000000000) (q0 : (((1 * (rw 0)) * (rw 1)) * (rw 2)) = 0 ∨ nv = 1 → Q (.inl (some (.double (0 : UInt64)))) σ) (q : ¬ ((((1 * (rw 0)) * (rw 1)) * (rw 2)) = 0 ∨ nv = 1) → ∀ σ', (∀ a b, ¬ (42 ≤ a ∧ a ≤ 43) → σ' a b = σ a b) → Q (.inl (some (.double (FP.ddiv (FP.i2d (Int32.ofInt (A_go 1000000000 (fun p ρ => A_hl (A_val V rw ρ) p (-1) cs 0) od rw (3 : Int).toNat 0 (fun _ => 0, 0, 0, 0)).2.2.2)) (FP.i2d (Int32.ofInt (((1 * (rw 0)) * (rw 1)) * (rw 2)))))))) σ') : P_aw w (d + 14) 162 0 [.ref (w.2.2 0), P_un] [] σ Q := by
  obtain ⟨hA, hX, hF, hK, hO, hok, htk, hN, hn01, hrd1, hfp⟩ := id hB
  have hns := hA.2.1
  have hit := hF.2.1
  have hsz0 := hK.2.1
  refine P_aw_op (L' := [.ref (w.2.2 0), P_un]) (st' := [.ref (w.2.2 0)]) P_i162_0 rfl (show P_aw _ _ _ 1 [.ref (w.2.2 0), P_un] [.ref (w.2.2 0)] _ _ from ?_)
  refine P_aw_call P_i162_1 rfl rfl (fun _ => rfl) rfl rfl rfl rfl (y2 := 168) (as := [.ref (w.2.2 0)]) (r0 := []) (P_inv_v (hw.2.1 0 (by decide)) (hw.s rfl) rfl rfl) (Nat.le_of_ble_eq_true rfl) (by decide) rfl (Nat.le_of_ble_eq_true rfl) (show P_aw _ _ _ 0 [.ref (w.2.2 0)] [] _ _ from ?_)
  refine P_aw_op (L' := [.ref (w.2.2 0)]) (st' := [.ref (w.2.2 0)]) P_i168_0 rfl (show P_aw _ _ _ 1 [.ref (w.2.2 0)] [.ref (w.2.2 0)] _ _ from ?_)
  refine P_aw_getR P_i168_1 (hw.2.1 0 (by decide)) (hw.s rfl) rfl rfl (show P_aw _ _ _ 4 [.ref (w.2.2 0)] [.ref (w.2.2 29)] _ _ from ?_)
  refine P_aw_call P_i168_4 rfl rfl (fun _ => rfl) rfl rfl rfl rfl (y2 := 92) (as := [.ref (w.2.2 29)]) (r0 := []) (P_inv_v (hw.2.1 29 (by decide)) (hw.s rfl) rfl rfl) (Nat.le_of_ble_eq_true rfl) (by decide) rfl (Nat.le_of_ble_eq_true rfl) (show P_aw _ _ _ 0 [.ref (w.2.2 29)] [] _ _ from ?_)
  refine P_aw_op (L' := [.ref (w.2.2 29)]) (st' := [.ref (w.2.2 29)]) P_i92_0 rfl (show P_aw _ _ _ 1 [.ref (w.2.2 29)] [.ref (w.2.2 29)] _ _ from ?_)
  refine P_aw_getv P_i92_1 (hw.2.1 29 (by decide)) (hw.s rfl) rfl rfl (hrd1) (show P_aw _ _ _ 4 [.ref (w.2.2 29)] [P_z 1] _ _ from ?_)
  refine P_aw_end P_i92_4 rfl rfl (fun _ => rfl) rfl ?_
  show P_aw _ _ _ 7 [.ref (w.2.2 0)] [P_z 1] _ _
  refine P_aw_izt P_i168_7 ⟨by decide, by decide⟩ (P_ci_net (by omega)) (show P_aw _ _ _ 21 [.ref (w.2.2 0)] [] _ _ from ?_)
  refine P_aw_end P_i168_21 rfl rfl (fun _ => rfl) rfl ?_
  show P_aw _ _ _ 4 [.ref (w.2.2 0), P_un] [] _ _
  refine P_aw_op (L' := [.ref (w.2.2 0), P_un]) (st' := [.ref (w.2.2 0)]) P_i162_4 rfl (show P_aw _ _ _ 5 [.ref (w.2.2 0), P_un] [.ref (w.2.2 0)] _ _ from ?_)
  refine P_aw_getR P_i162_5 (hw.2.1 0 (by decide)) (hw.s rfl) rfl rfl (show P_aw _ _ _ 8 [.ref (w.2.2 0), P_un] [.ref (w.2.2 6)] _ _ from ?_)
  refine P_aw_call P_i162_8 rfl rfl (fun _ => rfl) rfl rfl rfl rfl (y2 := 41) (as := [.ref (w.2.2 6)]) (r0 := []) (P_inv_v (hw.2.1 6 (by decide)) (hw.s rfl) rfl rfl) (Nat.le_of_ble_eq_true rfl) (by decide) rfl (Nat.le_of_ble_eq_true rfl) (show P_aw _ _ _ 0 [.ref (w.2.2 6), P_un, P_un] [] _ _ from ?_)
  refine P_aw_op (L' := [.ref (w.2.2 6), P_un, P_un]) (st' := [P_z 1]) P_i41_0 rfl (show P_aw _ _ _ 1 [.ref (w.2.2 6), P_un, P_un] [P_z 1] _ _ from ?_)
  refine P_aw_op (L' := [.ref (w.2.2 6), P_z 1, P_un]) (st' := []) P_i41_1 rfl (show P_aw _ _ _ 2 [.ref (w.2.2 6), P_z 1, P_un] [] _ _ from ?_)
  refine P_aw_op (L' := [.ref (w.2.2 6), P_z 1, P_un]) (st' := [P_z 0]) P_i41_2 rfl (show P_aw _ _ _ 3 [.ref (w.2.2 6), P_z 1, P_un] [P_z 0] _ _ from ?_)
  refine P_aw_op (L' := [.ref (w.2.2 6), P_z 1, P_z 0]) (st' := []) P_i41_3 rfl (show P_aw _ _ _ 4 [.ref (w.2.2 6), P_z 1, P_z 0] [] _ _ from ?_)
  refine P_aw_op (L' := [.ref (w.2.2 6), P_z 1, P_z 0]) (st' := [P_z 0]) P_i41_4 rfl (show P_aw _ _ _ 5 [.ref (w.2.2 6), P_z 1, P_z 0] [P_z 0] _ _ from ?_)
  refine P_aw_op (L' := [.ref (w.2.2 6), P_z 1, P_z 0]) (st' := [.ref (w.2.2 6), P_z 0]) P_i41_5 rfl (show P_aw _ _ _ 6 [.ref (w.2.2 6), P_z 1, P_z 0] [.ref (w.2.2 6), P_z 0] _ _ from ?_)
  refine P_aw_getv P_i41_6 (hw.2.1 6 (by decide)) (hw.s rfl) rfl rfl (hA.1) (show P_aw _ _ _ 9 [.ref (w.2.2 6), P_z 1, P_z 0] [P_z 3, P_z 0] _ _ from ?_)
  refine P_aw_icf P_i41_9 ⟨by decide, by decide⟩ ⟨by decide, by decide⟩ (P_ci_gef (by omega)) (show P_aw _ _ _ 12 [.ref (w.2.2 6), P_z 1, P_z 0] [] _ _ from ?_)
  refine P_aw_op (L' := [.ref (w.2.2 6), P_z 1, P_z 0]) (st' := [P_z 1]) P_i41_12 rfl (show P_aw _ _ _ 13 [.ref (w.2.2 6), P_z 1, P_z 0] [P_z 1] _ _ from ?_)
  refine P_aw_op (L' := [.ref (w.2.2 6), P_z 1, P_z 0]) (st' := [.ref (w.2.2 6), P_z 1]) P_i41_13 rfl (show P_aw _ _ _ 14 [.ref (w.2.2 6), P_z 1, P_z 0] [.ref (w.2.2 6), P_z 1] _ _ from ?_)
  refine P_aw_op (L' := [.ref (w.2.2 6), P_z 1, P_z 0]) (st' := [P_z 0, .ref (w.2.2 6), P_z 1]) P_i41_14 rfl (show P_aw _ _ _ 15 [.ref (w.2.2 6), P_z 1, P_z 0] [P_z 0, .ref (w.2.2 6), P_z 1] _ _ from ?_)
  refine P_aw_call P_i41_15 rfl rfl (fun _ => rfl) rfl rfl rfl rfl (y2 := 38) (as := [.ref (w.2.2 6), P_z 0]) (r0 := [P_z 1]) (P_inv_v (hw.2.1 6 (by decide)) (hw.s rfl) rfl rfl) (Nat.le_of_ble_eq_true rfl) (by decide) rfl (Nat.le_of_ble_eq_true rfl) (show P_aw _ _ _ 0 [.ref (w.2.2 6), P_z 0, P_un] [] _ _ from ?_)
  refine P_aw_op (L' := [.ref (w.2.2 6), P_z 0, P_un]) (st' := [P_z 0]) P_i38_0 rfl (show P_aw _ _ _ 1 [.ref (w.2.2 6), P_z 0, P_un] [P_z 0] _ _ from ?_)
  refine P_aw_izf P_i38_1 ⟨by decide, by decide⟩ (P_ci_ltf (by omega)) (show P_aw _ _ _ 4 [.ref (w.2.2 6), P_z 0, P_un] [] _ _ from ?_)
  refine P_aw_op (L' := [.ref (w.2.2 6), P_z 0, P_un]) (st' := [P_z 0]) P_i38_4 rfl (show P_aw _ _ _ 5 [.ref (w.2.2 6), P_z 0, P_un] [P_z 0] _ _ from ?_)
  refine P_aw_op (L' := [.ref (w.2.2 6), P_z 0, P_un]) (st' := [.ref (w.2.2 6), P_z 0]) P_i38_5 rfl (show P_aw _ _ _ 6 [.ref (w.2.2 6), P_z 0, P_un] [.ref (w.2.2 6), P_z 0] _ _ from ?_)
  refine P_aw_getv P_i38_6 (hw.2.1 6 (by decide)) (hw.s rfl) rfl rfl (hA.1) (show P_aw _ _ _ 9 [.ref (w.2.2 6), P_z 0, P_un] [P_z 3, P_z 0] _ _ from ?_)
  refine P_aw_icf P_i38_9 ⟨by decide, by decide⟩ ⟨by decide, by decide⟩ (P_ci_gef (by omega)) (show P_aw _ _ _ 12 [.ref (w.2.2 6), P_z 0, P_un] [] _ _ from ?_)
  refine P_aw_op (L' := [.ref (w.2.2 6), P_z 0, P_un]) (st' := [P_z 0]) P_i38_12 rfl (show P_aw _ _ _ 13 [.ref (w.2.2 6), P_z 0, P_un] [P_z 0] _ _ from ?_)
  refine P_aw_op (L' := [.ref (w.2.2 6), P_z 0, P_un]) (st' := [.ref (w.2.2 6), P_z 0]) P_i38_13 rfl (show P_aw _ _ _ 14 [.ref (w.2.2 6), P_z 0, P_un] [.ref (w.2.2 6), P_z 0] _ _ from ?_)
  refine P_aw_getR P_i38_14 (hw.2.1 6 (by decide)) (hw.s rfl) rfl rfl (show P_aw _ _ _ 17 [.ref (w.2.2 6), P_z 0, P_un] [.ref (w.2.2 9), P_z 0] _ _ from ?_)
  refine P_aw_rlen P_i38_17 (hw.2.1 9 (by decide)) (hw.s rfl) (show P_aw _ _ _ 18 [.ref (w.2.2 6), P_z 0, P_un] [P_z 3, P_z 0] _ _ from ?_)
  refine P_aw_ict P_i38_18 ⟨by decide, by decide⟩ ⟨by decide, by decide⟩ (P_ci_ltt (by omega)) (show P_aw _ _ _ 26 [.ref (w.2.2 6), P_z 0, P_un] [] _ _ from ?_)
  refine P_aw_op (L' := [.ref (w.2.2 6), P_z 0, P_un]) (st' := [.ref (w.2.2 6)]) P_i38_26 rfl (show P_aw _ _ _ 27 [.ref (w.2.2 6), P_z 0, P_un] [.ref (w.2.2 6)] _ _ from ?_)
  refine P_aw_getR P_i38_27 (hw.2.1 6 (by decide)) (hw.s rfl) rfl rfl (show P_aw _ _ _ 30 [.ref (w.2.2 6), P_z 0, P_un] [.ref (w.2.2 9)] _ _ from ?_)
  refine P_aw_op (L' := [.ref (w.2.2 6), P_z 0, P_un]) (st' := [P_z 0, .ref (w.2.2 9)]) P_i38_30 rfl (show P_aw _ _ _ 31 [.ref (w.2.2 6), P_z 0, P_un] [P_z 0, .ref (w.2.2 9)] _ _ from ?_)
  have hg1 := (hA.2.2 0 (by omega) (by omega)).2.1.1
  refine P_aw_rldv P_i38_31 (hw.2.1 9 (by decide)) (hw.s rfl) (by decide) (by omega) (by omega) (by decide) ((hA.2.2 0 (by omega) (by omega)).1) (by omega) (show P_aw _ _ _ 32 [.ref (w.2.2 6), P_z 0, P_un] [.ref (w.2.2 (tb 0))] _ _ from ?_)
  refine P_aw_op (L' := [.ref (w.2.2 6), P_z 0, .ref (w.2.2 (tb 0))]) (st' := []) P_i38_32 rfl (show P_aw _ _ _ 33 [.ref (w.2.2 6), P_z 0, .ref (w.2.2 (tb 0))] [] _ _ from ?_)
  refine P_aw_op (L' := [.ref (w.2.2 6), P_z 0, .ref (w.2.2 (tb 0))]) (st' := [.ref (w.2.2 (tb 0))]) P_i38_33 rfl (show P_aw _ _ _ 34 [.ref (w.2.2 6), P_z 0, .ref (w.2.2 (tb 0))] [.ref (w.2.2 (tb 0))] _ _ from ?_)
  refine P_aw_brt P_i38_34 rfl (show P_aw _ _ _ 44 [.ref (w.2.2 6), P_z 0, .ref (w.2.2 (tb 0))] [] _ _ from ?_)
  refine P_aw_op (L' := [.ref (w.2.2 6), P_z 0, .ref (w.2.2 (tb 0))]) (st' := [.ref (w.2.2 (tb 0))]) P_i38_44 rfl (show P_aw _ _ _ 45 [.ref (w.2.2 6), P_z 0, .ref (w.2.2 (tb 0))] [.ref (w.2.2 (tb 0))] _ _ from ?_)
  refine P_aw_end P_i38_45 rfl rfl (fun _ => rfl) rfl ?_
  show P_aw _ _ _ 18 [.ref (w.2.2 6), P_z 1, P_z 0] [.ref (w.2.2 (tb 0)), P_z 1] _ _
  refine P_aw_call P_i41_18 rfl rfl (fun _ => rfl) rfl rfl rfl rfl (y2 := 120) (as := [.ref (w.2.2 (tb 0))]) (r0 := [P_z 1]) (P_inv_v (hA.2.2 0 (by omega) (by omega)).2.1.2.1.2 (hA.2.2 0 (by omega) (by omega)).2.1.2.1.1 rfl rfl) (Nat.le_of_ble_eq_true rfl) (by decide) rfl (Nat.le_of_ble_eq_true rfl) (show P_aw _ _ _ 0 [.ref (w.2.2 (tb 0))] [] _ _ from ?_)
  refine P_aw_op (L' := [.ref (w.2.2 (tb 0))]) (st' := [.ref (w.2.2 (tb 0))]) P_i120_0 rfl (show P_aw _ _ _ 1 [.ref (w.2.2 (tb 0))] [.ref (w.2.2 (tb 0))] _ _ from ?_)
  have hg2 := (hA.2.2 0 (by omega) (by omega)).2.2.2.1
  refine P_aw_getv P_i120_1 (hA.2.2 0 (by omega) (by omega)).2.1.2.1.2 (hA.2.2 0 (by omega) (by omega)).2.1.2.1.1 rfl rfl ((hA.2.2 0 (by omega) (by omega)).2.2.1) (show P_aw _ _ _ 4 [.ref (w.2.2 (tb 0))] [P_z (rw 0)] _ _ from ?_)
  refine P_aw_end P_i120_4 rfl rfl (fun _ => rfl) rfl ?_
  show P_aw _ _ _ 21 [.ref (w.2.2 6), P_z 1, P_z 0] [P_z (rw 0), P_z 1] _ _
  refine P_aw_op (L' := [.ref (w.2.2 6), P_z 1, P_z 0]) (st' := [P_z (1 * (rw 0))]) P_i41_21 P_o_imul (show P_aw _ _ _ 22 [.ref (w.2.2 6), P_z 1, P_z 0] [P_z (1 * (rw 0))] _ _ from ?_)
  refine P_aw_op (L' := [.ref (w.2.2 6), P_z (1 * (rw 0)), P_z 0]) (st' := []) P_i41_22 rfl (show P_aw _ _ _ 23 [.ref (w.2.2 6), P_z (1 * (rw 0)), P_z 0] [] _ _ from ?_)
  refine P_aw_op (L' := [.ref (w.2.2 6), P_z (1 * (rw 0)), P_z 1]) (st' := []) P_i41_23 (P_o_iincv (x := 0) rfl (by decide)) (show P_aw _ _ _ 26 [.ref (w.2.2 6), P_z (1 * (rw 0)), P_z 1] [] _ _ from ?_)
  refine P_aw_goto P_i41_26 (show P_aw _ _ _ 4 [.ref (w.2.2 6), P_z (1 * (rw 0)), P_z 1] [] _ _ from ?_)
  refine P_aw_op (L' := [.ref (w.2.2 6), P_z (1 * (rw 0)), P_z 1]) (st' := [P_z 1]) P_i41_4 rfl (show P_aw _ _ _ 5 [.ref (w.2.2 6), P_z (1 * (rw 0)), P_z 1] [P_z 1] _ _ from ?_)
  refine P_aw_op (L' := [.ref (w.2.2 6), P_z (1 * (rw 0)), P_z 1]) (st' := [.ref (w.2.2 6), P_z 1]) P_i41_5 rfl (show P_aw _ _ _ 6 [.ref (w.2.2 6), P_z (1 * (rw 0)), P_z 1] [.ref (w.2.2 6), P_z 1] _ _ from ?_)
  refine P_aw_getv P_i41_6 (hw.2.1 6 (by decide)) (hw.s rfl) rfl rfl (hA.1) (show P_aw _ _ _ 9 [.ref (w.2.2 6), P_z (1 * (rw 0)), P_z 1] [P_z 3, P_z 1] _ _ from ?_)
  refine P_aw_icf P_i41_9 ⟨by decide, by decide⟩ ⟨by decide, by decide⟩ (P_ci_gef (by omega)) (show P_aw _ _ _ 12 [.ref (w.2.2 6), P_z (1 * (rw 0)), P_z 1] [] _ _ from ?_)
  refine P_aw_op (L' := [.ref (w.2.2 6), P_z (1 * (rw 0)), P_z 1]) (st' := [P_z (1 * (rw 0))]) P_i41_12 rfl (show P_aw _ _ _ 13 [.ref (w.2.2 6), P_z (1 * (rw 0)), P_z 1] [P_z (1 * (rw 0))] _ _ from ?_)
  refine P_aw_op (L' := [.ref (w.2.2 6), P_z (1 * (rw 0)), P_z 1]) (st' := [.ref (w.2.2 6), P_z (1 * (rw 0))]) P_i41_13 rfl (show P_aw _ _ _ 14 [.ref (w.2.2 6), P_z (1 * (rw 0)), P_z 1] [.ref (w.2.2 6), P_z (1 * (rw 0))] _ _ from ?_)
  refine P_aw_op (L' := [.ref (w.2.2 6), P_z (1 * (rw 0)), P_z 1]) (st' := [P_z 1, .ref (w.2.2 6), P_z (1 * (rw 0))]) P_i41_14 rfl (show P_aw _ _ _ 15 [.ref (w.2.2 6), P_z (1 * (rw 0)), P_z 1] [P_z 1, .ref (w.2.2 6), P_z (1 * (rw 0))] _ _ from ?_)
  refine P_aw_call P_i41_15 rfl rfl (fun _ => rfl) rfl rfl rfl rfl (y2 := 38) (as := [.ref (w.2.2 6), P_z 1]) (r0 := [P_z (1 * (rw 0))]) (P_inv_v (hw.2.1 6 (by decide)) (hw.s rfl) rfl rfl) (Nat.le_of_ble_eq_true rfl) (by decide) rfl (Nat.le_of_ble_eq_true rfl) (show P_aw _ _ _ 0 [.ref (w.2.2 6), P_z 1, P_un] [] _ _ from ?_)
  refine P_aw_op (L' := [.ref (w.2.2 6), P_z 1, P_un]) (st' := [P_z 1]) P_i38_0 rfl (show P_aw _ _ _ 1 [.ref (w.2.2 6), P_z 1, P_un] [P_z 1] _ _ from ?_)
  refine P_aw_izf P_i38_1 ⟨by decide, by decide⟩ (P_ci_ltf (by omega)) (show P_aw _ _ _ 4 [.ref (w.2.2 6), P_z 1, P_un] [] _ _ from ?_)
  refine P_aw_op (L' := [.ref (w.2.2 6), P_z 1, P_un]) (st' := [P_z 1]) P_i38_4 rfl (show P_aw _ _ _ 5 [.ref (w.2.2 6), P_z 1, P_un] [P_z 1] _ _ from ?_)
  refine P_aw_op (L' := [.ref (w.2.2 6), P_z 1, P_un]) (st' := [.ref (w.2.2 6), P_z 1]) P_i38_5 rfl (show P_aw _ _ _ 6 [.ref (w.2.2 6), P_z 1, P_un] [.ref (w.2.2 6), P_z 1] _ _ from ?_)
  refine P_aw_getv P_i38_6 (hw.2.1 6 (by decide)) (hw.s rfl) rfl rfl (hA.1) (show P_aw _ _ _ 9 [.ref (w.2.2 6), P_z 1, P_un] [P_z 3, P_z 1] _ _ from ?_)
  refine P_aw_icf P_i38_9 ⟨by decide, by decide⟩ ⟨by decide, by decide⟩ (P_ci_gef (by omega)) (show P_aw _ _ _ 12 [.ref (w.2.2 6), P_z 1, P_un] [] _ _ from ?_)
  refine P_aw_op (L' := [.ref (w.2.2 6), P_z 1, P_un]) (st' := [P_z 1]) P_i38_12 rfl (show P_aw _ _ _ 13 [.ref (w.2.2 6), P_z 1, P_un] [P_z 1] _ _ from ?_)
  refine P_aw_op (L' := [.ref (w.2.2 6), P_z 1, P_un]) (st' := [.ref (w.2.2 6), P_z 1]) P_i38_13 rfl (show P_aw _ _ _ 14 [.ref (w.2.2 6), P_z 1, P_un] [.ref (w.2.2 6), P_z 1] _ _ from ?_)
  refine P_aw_getR P_i38_14 (hw.2.1 6 (by decide)) (hw.s rfl) rfl rfl (show P_aw _ _ _ 17 [.ref (w.2.2 6), P_z 1, P_un] [.ref (w.2.2 9), P_z 1] _ _ from ?_)
  refine P_aw_rlen P_i38_17 (hw.2.1 9 (by decide)) (hw.s rfl) (show P_aw _ _ _ 18 [.ref (w.2.2 6), P_z 1, P_un] [P_z 3, P_z 1] _ _ from ?_)
  refine P_aw_ict P_i38_18 ⟨by decide, by decide⟩ ⟨by decide, by decide⟩ (P_ci_ltt (by omega)) (show P_aw _ _ _ 26 [.ref (w.2.2 6), P_z 1, P_un] [] _ _ from ?_)
  refine P_aw_op (L' := [.ref (w.2.2 6), P_z 1, P_un]) (st' := [.ref (w.2.2 6)]) P_i38_26 rfl (show P_aw _ _ _ 27 [.ref (w.2.2 6), P_z 1, P_un] [.ref (w.2.2 6)] _ _ from ?_)
  refine P_aw_getR P_i38_27 (hw.2.1 6 (by decide)) (hw.s rfl) rfl rfl (show P_aw _ _ _ 30 [.ref (w.2.2 6), P_z 1, P_un] [.ref (w.2.2 9)] _ _ from ?_)
  refine P_aw_op (L' := [.ref (w.2.2 6), P_z 1, P_un]) (st' := [P_z 1, .ref (w.2.2 9)]) P_i38_30 rfl (show P_aw _ _ _ 31 [.ref (w.2.2 6), P_z 1, P_un] [P_z 1, .ref (w.2.2 9)] _ _ from ?_)
  have hg3 := (hA.2.2 1 (by omega) (by omega)).2.1.1
  refine P_aw_rldv P_i38_31 (hw.2.1 9 (by decide)) (hw.s rfl) (by decide) (by omega) (by omega) (by decide) ((hA.2.2 1 (by omega) (by omega)).1) (by omega) (show P_aw _ _ _ 32 [.ref (w.2.2 6), P_z 1, P_un] [.ref (w.2.2 (tb 1))] _ _ from ?_)
  refine P_aw_op (L' := [.ref (w.2.2 6), P_z 1, .ref (w.2.2 (tb 1))]) (st' := []) P_i38_32 rfl (show P_aw _ _ _ 33 [.ref (w.2.2 6), P_z 1, .ref (w.2.2 (tb 1))] [] _ _ from ?_)
  refine P_aw_op (L' := [.ref (w.2.2 6), P_z 1, .ref (w.2.2 (tb 1))]) (st' := [.ref (w.2.2 (tb 1))]) P_i38_33 rfl (show P_aw _ _ _ 34 [.ref (w.2.2 6), P_z 1, .ref (w.2.2 (tb 1))] [.ref (w.2.2 (tb 1))] _ _ from ?_)
  refine P_aw_brt P_i38_34 rfl (show P_aw _ _ _ 44 [.ref (w.2.2 6), P_z 1, .ref (w.2.2 (tb 1))] [] _ _ from ?_)
  refine P_aw_op (L' := [.ref (w.2.2 6), P_z 1, .ref (w.2.2 (tb 1))]) (st' := [.ref (w.2.2 (tb 1))]) P_i38_44 rfl (show P_aw _ _ _ 45 [.ref (w.2.2 6), P_z 1, .ref (w.2.2 (tb 1))] [.ref (w.2.2 (tb 1))] _ _ from ?_)
  refine P_aw_end P_i38_45 rfl rfl (fun _ => rfl) rfl ?_
  show P_aw _ _ _ 18 [.ref (w.2.2 6), P_z (1 * (rw 0)), P_z 1] [.ref (w.2.2 (tb 1)), P_z (1 * (rw 0))] _ _
  refine P_aw_call P_i41_18 rfl rfl (fun _ => rfl) rfl rfl rfl rfl (y2 := 120) (as := [.ref (w.2.2 (tb 1))]) (r0 := [P_z (1 * (rw 0))]) (P_inv_v (hA.2.2 1 (by omega) (by omega)).2.1.2.1.2 (hA.2.2 1 (by omega) (by omega)).2.1.2.1.1 rfl rfl) (Nat.le_of_ble_eq_true rfl) (by decide) rfl (Nat.le_of_ble_eq_true rfl) (show P_aw _ _ _ 0 [.ref (w.2.2 (tb 1))] [] _ _ from ?_)
  refine P_aw_op (L' := [.ref (w.2.2 (tb 1))]) (st' := [.ref (w.2.2 (tb 1))]) P_i120_0 rfl (show P_aw _ _ _ 1 [.ref (w.2.2 (tb 1))] [.ref (w.2.2 (tb 1))] _ _ from ?_)
  have hg4 := (hA.2.2 1 (by omega) (by omega)).2.2.2.1
  refine P_aw_getv P_i120_1 (hA.2.2 1 (by omega) (by omega)).2.1.2.1.2 (hA.2.2 1 (by omega) (by omega)).2.1.2.1.1 rfl rfl ((hA.2.2 1 (by omega) (by omega)).2.2.1) (show P_aw _ _ _ 4 [.ref (w.2.2 (tb 1))] [P_z (rw 1)] _ _ from ?_)
  refine P_aw_end P_i120_4 rfl rfl (fun _ => rfl) rfl ?_
  show P_aw _ _ _ 21 [.ref (w.2.2 6), P_z (1 * (rw 0)), P_z 1] [P_z (rw 1), P_z (1 * (rw 0))] _ _
  have hm5 : 0 ≤ ((1 * (rw 0)) * (rw 1)) ∧ ((1 * (rw 0)) * (rw 1)) ≤ (1 * (rw 0)) * 14 := A_mb (by omega) (by omega) (by omega)
  refine P_aw_op (L' := [.ref (w.2.2 6), P_z (1 * (rw 0)), P_z 1]) (st' := [P_z ((1 * (rw 0)) * (rw 1))]) P_i41_21 P_o_imul (show P_aw _ _ _ 22 [.ref (w.2.2 6), P_z (1 * (rw 0)), P_z 1] [P_z ((1 * (rw 0)) * (rw 1))] _ _ from ?_)
  refine P_aw_op (L' := [.ref (w.2.2 6), P_z ((1 * (rw 0)) * (rw 1)), P_z 1]) (st' := []) P_i41_22 rfl (show P_aw _ _ _ 23 [.ref (w.2.2 6), P_z ((1 * (rw 0)) * (rw 1)), P_z 1] [] _ _ from ?_)
  refine P_aw_op (L' := [.ref (w.2.2 6), P_z ((1 * (rw 0)) * (rw 1)), P_z 2]) (st' := []) P_i41_23 (P_o_iincv (x := 1) rfl (by decide)) (show P_aw _ _ _ 26 [.ref (w.2.2 6), P_z ((1 * (rw 0)) * (rw 1)), P_z 2] [] _ _ from ?_)
  refine P_aw_goto P_i41_26 (show P_aw _ _ _ 4 [.ref (w.2.2 6), P_z ((1 * (rw 0)) * (rw 1)), P_z 2] [] _ _ from ?_)
  refine P_aw_op (L' := [.ref (w.2.2 6), P_z ((1 * (rw 0)) * (rw 1)), P_z 2]) (st' := [P_z 2]) P_i41_4 rfl (show P_aw _ _ _ 5 [.ref (w.2.2 6), P_z ((1 * (rw 0)) * (rw 1)), P_z 2] [P_z 2] _ _ from ?_)
  refine P_aw_op (L' := [.ref (w.2.2 6), P_z ((1 * (rw 0)) * (rw 1)), P_z 2]) (st' := [.ref (w.2.2 6), P_z 2]) P_i41_5 rfl (show P_aw _ _ _ 6 [.ref (w.2.2 6), P_z ((1 * (rw 0)) * (rw 1)), P_z 2] [.ref (w.2.2 6), P_z 2] _ _ from ?_)
  refine P_aw_getv P_i41_6 (hw.2.1 6 (by decide)) (hw.s rfl) rfl rfl (hA.1) (show P_aw _ _ _ 9 [.ref (w.2.2 6), P_z ((1 * (rw 0)) * (rw 1)), P_z 2] [P_z 3, P_z 2] _ _ from ?_)
  refine P_aw_icf P_i41_9 ⟨by decide, by decide⟩ ⟨by decide, by decide⟩ (P_ci_gef (by omega)) (show P_aw _ _ _ 12 [.ref (w.2.2 6), P_z ((1 * (rw 0)) * (rw 1)), P_z 2] [] _ _ from ?_)
  refine P_aw_op (L' := [.ref (w.2.2 6), P_z ((1 * (rw 0)) * (rw 1)), P_z 2]) (st' := [P_z ((1 * (rw 0)) * (rw 1))]) P_i41_12 rfl (show P_aw _ _ _ 13 [.ref (w.2.2 6), P_z ((1 * (rw 0)) * (rw 1)), P_z 2] [P_z ((1 * (rw 0)) * (rw 1))] _ _ from ?_)
  refine P_aw_op (L' := [.ref (w.2.2 6), P_z ((1 * (rw 0)) * (rw 1)), P_z 2]) (st' := [.ref (w.2.2 6), P_z ((1 * (rw 0)) * (rw 1))]) P_i41_13 rfl (show P_aw _ _ _ 14 [.ref (w.2.2 6), P_z ((1 * (rw 0)) * (rw 1)), P_z 2] [.ref (w.2.2 6), P_z ((1 * (rw 0)) * (rw 1))] _ _ from ?_)
  refine P_aw_op (L' := [.ref (w.2.2 6), P_z ((1 * (rw 0)) * (rw 1)), P_z 2]) (st' := [P_z 2, .ref (w.2.2 6), P_z ((1 * (rw 0)) * (rw 1))]) P_i41_14 rfl (show P_aw _ _ _ 15 [.ref (w.2.2 6), P_z ((1 * (rw 0)) * (rw 1)), P_z 2] [P_z 2, .ref (w.2.2 6), P_z ((1 * (rw 0)) * (rw 1))] _ _ from ?_)
  refine P_aw_call P_i41_15 rfl rfl (fun _ => rfl) rfl rfl rfl rfl (y2 := 38) (as := [.ref (w.2.2 6), P_z 2]) (r0 := [P_z ((1 * (rw 0)) * (rw 1))]) (P_inv_v (hw.2.1 6 (by decide)) (hw.s rfl) rfl rfl) (Nat.le_of_ble_eq_true rfl) (by decide) rfl (Nat.le_of_ble_eq_true rfl) (show P_aw _ _ _ 0 [.ref (w.2.2 6), P_z 2, P_un] [] _ _ from ?_)
  refine P_aw_op (L' := [.ref (w.2.2 6), P_z 2, P_un]) (st' := [P_z 2]) P_i38_0 rfl (show P_aw _ _ _ 1 [.ref (w.2.2 6), P_z 2, P_un] [P_z 2] _ _ from ?_)
  refine P_aw_izf P_i38_1 ⟨by decide, by decide⟩ (P_ci_ltf (by omega)) (show P_aw _ _ _ 4 [.ref (w.2.2 6), P_z 2, P_un] [] _ _ from ?_)
  refine P_aw_op (L' := [.ref (w.2.2 6), P_z 2, P_un]) (st' := [P_z 2]) P_i38_4 rfl (show P_aw _ _ _ 5 [.ref (w.2.2 6), P_z 2, P_un] [P_z 2] _ _ from ?_)
  refine P_aw_op (L' := [.ref (w.2.2 6), P_z 2, P_un]) (st' := [.ref (w.2.2 6), P_z 2]) P_i38_5 rfl (show P_aw _ _ _ 6 [.ref (w.2.2 6), P_z 2, P_un] [.ref (w.2.2 6), P_z 2] _ _ from ?_)
  refine P_aw_getv P_i38_6 (hw.2.1 6 (by decide)) (hw.s rfl) rfl rfl (hA.1) (show P_aw _ _ _ 9 [.ref (w.2.2 6), P_z 2, P_un] [P_z 3, P_z 2] _ _ from ?_)
  refine P_aw_icf P_i38_9 ⟨by decide, by decide⟩ ⟨by decide, by decide⟩ (P_ci_gef (by omega)) (show P_aw _ _ _ 12 [.ref (w.2.2 6), P_z 2, P_un] [] _ _ from ?_)
  refine P_aw_op (L' := [.ref (w.2.2 6), P_z 2, P_un]) (st' := [P_z 2]) P_i38_12 rfl (show P_aw _ _ _ 13 [.ref (w.2.2 6), P_z 2, P_un] [P_z 2] _ _ from ?_)
  refine P_aw_op (L' := [.ref (w.2.2 6), P_z 2, P_un]) (st' := [.ref (w.2.2 6), P_z 2]) P_i38_13 rfl (show P_aw _ _ _ 14 [.ref (w.2.2 6), P_z 2, P_un] [.ref (w.2.2 6), P_z 2] _ _ from ?_)
  refine P_aw_getR P_i38_14 (hw.2.1 6 (by decide)) (hw.s rfl) rfl rfl (show P_aw _ _ _ 17 [.ref (w.2.2 6), P_z 2, P_un] [.ref (w.2.2 9), P_z 2] _ _ from ?_)
  refine P_aw_rlen P_i38_17 (hw.2.1 9 (by decide)) (hw.s rfl) (show P_aw _ _ _ 18 [.ref (w.2.2 6), P_z 2, P_un] [P_z 3, P_z 2] _ _ from ?_)
  refine P_aw_ict P_i38_18 ⟨by decide, by decide⟩ ⟨by decide, by decide⟩ (P_ci_ltt (by omega)) (show P_aw _ _ _ 26 [.ref (w.2.2 6), P_z 2, P_un] [] _ _ from ?_)
  refine P_aw_op (L' := [.ref (w.2.2 6), P_z 2, P_un]) (st' := [.ref (w.2.2 6)]) P_i38_26 rfl (show P_aw _ _ _ 27 [.ref (w.2.2 6), P_z 2, P_un] [.ref (w.2.2 6)] _ _ from ?_)
  refine P_aw_getR P_i38_27 (hw.2.1 6 (by decide)) (hw.s rfl) rfl rfl (show P_aw _ _ _ 30 [.ref (w.2.2 6), P_z 2, P_un] [.ref (w.2.2 9)] _ _ from ?_)
  refine P_aw_op (L' := [.ref (w.2.2 6), P_z 2, P_un]) (st' := [P_z 2, .ref (w.2.2 9)]) P_i38_30 rfl (show P_aw _ _ _ 31 [.ref (w.2.2 6), P_z 2, P_un] [P_z 2, .ref (w.2.2 9)] _ _ from ?_)
  have hg6 := (hA.2.2 2 (by omega) (by omega)).2.1.1
  refine P_aw_rldv P_i38_31 (hw.2.1 9 (by decide)) (hw.s rfl) (by decide) (by omega) (by omega) (by decide) ((hA.2.2 2 (by omega) (by omega)).1) (by omega) (show P_aw _ _ _ 32 [.ref (w.2.2 6), P_z 2, P_un] [.ref (w.2.2 (tb 2))] _ _ from ?_)
  refine P_aw_op (L' := [.ref (w.2.2 6), P_z 2, .ref (w.2.2 (tb 2))]) (st' := []) P_i38_32 rfl (show P_aw _ _ _ 33 [.ref (w.2.2 6), P_z 2, .ref (w.2.2 (tb 2))] [] _ _ from ?_)
  refine P_aw_op (L' := [.ref (w.2.2 6), P_z 2, .ref (w.2.2 (tb 2))]) (st' := [.ref (w.2.2 (tb 2))]) P_i38_33 rfl (show P_aw _ _ _ 34 [.ref (w.2.2 6), P_z 2, .ref (w.2.2 (tb 2))] [.ref (w.2.2 (tb 2))] _ _ from ?_)
  refine P_aw_brt P_i38_34 rfl (show P_aw _ _ _ 44 [.ref (w.2.2 6), P_z 2, .ref (w.2.2 (tb 2))] [] _ _ from ?_)
  refine P_aw_op (L' := [.ref (w.2.2 6), P_z 2, .ref (w.2.2 (tb 2))]) (st' := [.ref (w.2.2 (tb 2))]) P_i38_44 rfl (show P_aw _ _ _ 45 [.ref (w.2.2 6), P_z 2, .ref (w.2.2 (tb 2))] [.ref (w.2.2 (tb 2))] _ _ from ?_)
  refine P_aw_end P_i38_45 rfl rfl (fun _ => rfl) rfl ?_
  show P_aw _ _ _ 18 [.ref (w.2.2 6), P_z ((1 * (rw 0)) * (rw 1)), P_z 2] [.ref (w.2.2 (tb 2)), P_z ((1 * (rw 0)) * (rw 1))] _ _
  refine P_aw_call P_i41_18 rfl rfl (fun _ => rfl) rfl rfl rfl rfl (y2 := 120) (as := [.ref (w.2.2 (tb 2))]) (r0 := [P_z ((1 * (rw 0)) * (rw 1))]) (P_inv_v (hA.2.2 2 (by omega) (by omega)).2.1.2.1.2 (hA.2.2 2 (by omega) (by omega)).2.1.2.1.1 rfl rfl) (Nat.le_of_ble_eq_true rfl) (by decide) rfl (Nat.le_of_ble_eq_true rfl) (show P_aw _ _ _ 0 [.ref (w.2.2 (tb 2))] [] _ _ from ?_)
  refine P_aw_op (L' := [.ref (w.2.2 (tb 2))]) (st' := [.ref (w.2.2 (tb 2))]) P_i120_0 rfl (show P_aw _ _ _ 1 [.ref (w.2.2 (tb 2))] [.ref (w.2.2 (tb 2))] _ _ from ?_)
  have hg7 := (hA.2.2 2 (by omega) (by omega)).2.2.2.1
  refine P_aw_getv P_i120_1 (hA.2.2 2 (by omega) (by omega)).2.1.2.1.2 (hA.2.2 2 (by omega) (by omega)).2.1.2.1.1 rfl rfl ((hA.2.2 2 (by omega) (by omega)).2.2.1) (show P_aw _ _ _ 4 [.ref (w.2.2 (tb 2))] [P_z (rw 2)] _ _ from ?_)
  refine P_aw_end P_i120_4 rfl rfl (fun _ => rfl) rfl ?_
  show P_aw _ _ _ 21 [.ref (w.2.2 6), P_z ((1 * (rw 0)) * (rw 1)), P_z 2] [P_z (rw 2), P_z ((1 * (rw 0)) * (rw 1))] _ _
  have hm8 : 0 ≤ (((1 * (rw 0)) * (rw 1)) * (rw 2)) ∧ (((1 * (rw 0)) * (rw 1)) * (rw 2)) ≤ ((1 * (rw 0)) * (rw 1)) * 14 := A_mb (by omega) (by omega) (by omega)
  refine P_aw_op (L' := [.ref (w.2.2 6), P_z ((1 * (rw 0)) * (rw 1)), P_z 2]) (st' := [P_z (((1 * (rw 0)) * (rw 1)) * (rw 2))]) P_i41_21 P_o_imul (show P_aw _ _ _ 22 [.ref (w.2.2 6), P_z ((1 * (rw 0)) * (rw 1)), P_z 2] [P_z (((1 * (rw 0)) * (rw 1)) * (rw 2))] _ _ from ?_)
  refine P_aw_op (L' := [.ref (w.2.2 6), P_z (((1 * (rw 0)) * (rw 1)) * (rw 2)), P_z 2]) (st' := []) P_i41_22 rfl (show P_aw _ _ _ 23 [.ref (w.2.2 6), P_z (((1 * (rw 0)) * (rw 1)) * (rw 2)), P_z 2] [] _ _ from ?_)
  refine P_aw_op (L' := [.ref (w.2.2 6), P_z (((1 * (rw 0)) * (rw 1)) * (rw 2)), P_z 3]) (st' := []) P_i41_23 (P_o_iincv (x := 2) rfl (by decide)) (show P_aw _ _ _ 26 [.ref (w.2.2 6), P_z (((1 * (rw 0)) * (rw 1)) * (rw 2)), P_z 3] [] _ _ from ?_)
  refine P_aw_goto P_i41_26 (show P_aw _ _ _ 4 [.ref (w.2.2 6), P_z (((1 * (rw 0)) * (rw 1)) * (rw 2)), P_z 3] [] _ _ from ?_)
  refine P_aw_op (L' := [.ref (w.2.2 6), P_z (((1 * (rw 0)) * (rw 1)) * (rw 2)), P_z 3]) (st' := [P_z 3]) P_i41_4 rfl (show P_aw _ _ _ 5 [.ref (w.2.2 6), P_z (((1 * (rw 0)) * (rw 1)) * (rw 2)), P_z 3] [P_z 3] _ _ from ?_)
  refine P_aw_op (L' := [.ref (w.2.2 6), P_z (((1 * (rw 0)) * (rw 1)) * (rw 2)), P_z 3]) (st' := [.ref (w.2.2 6), P_z 3]) P_i41_5 rfl (show P_aw _ _ _ 6 [.ref (w.2.2 6), P_z (((1 * (rw 0)) * (rw 1)) * (rw 2)), P_z 3] [.ref (w.2.2 6), P_z 3] _ _ from ?_)
  refine P_aw_getv P_i41_6 (hw.2.1 6 (by decide)) (hw.s rfl) rfl rfl (hA.1) (show P_aw _ _ _ 9 [.ref (w.2.2 6), P_z (((1 * (rw 0)) * (rw 1)) * (rw 2)), P_z 3] [P_z 3, P_z 3] _ _ from ?_)
  refine P_aw_ict P_i41_9 ⟨by decide, by decide⟩ ⟨by decide, by decide⟩ (P_ci_get (by omega)) (show P_aw _ _ _ 29 [.ref (w.2.2 6), P_z (((1 * (rw 0)) * (rw 1)) * (rw 2)), P_z 3] [] _ _ from ?_)
  refine P_aw_op (L' := [.ref (w.2.2 6), P_z (((1 * (rw 0)) * (rw 1)) * (rw 2)), P_z 3]) (st' := [P_z (((1 * (rw 0)) * (rw 1)) * (rw 2))]) P_i41_29 rfl (show P_aw _ _ _ 30 [.ref (w.2.2 6), P_z (((1 * (rw 0)) * (rw 1)) * (rw 2)), P_z 3] [P_z (((1 * (rw 0)) * (rw 1)) * (rw 2))] _ _ from ?_)
  refine P_aw_end P_i41_30 rfl rfl (fun _ => rfl) rfl ?_
  show P_aw _ _ _ 11 [.ref (w.2.2 0), P_un] [P_z (((1 * (rw 0)) * (rw 1)) * (rw 2))] _ _
  refine P_aw_op (L' := [.ref (w.2.2 0), P_z (((1 * (rw 0)) * (rw 1)) * (rw 2))]) (st' := []) P_i162_11 rfl (show P_aw _ _ _ 12 [.ref (w.2.2 0), P_z (((1 * (rw 0)) * (rw 1)) * (rw 2))] [] _ _ from ?_)
  refine P_aw_op (L' := [.ref (w.2.2 0), P_z (((1 * (rw 0)) * (rw 1)) * (rw 2))]) (st' := [P_z (((1 * (rw 0)) * (rw 1)) * (rw 2))]) P_i162_12 rfl (show P_aw _ _ _ 13 [.ref (w.2.2 0), P_z (((1 * (rw 0)) * (rw 1)) * (rw 2))] [P_z (((1 * (rw 0)) * (rw 1)) * (rw 2))] _ _ from ?_)
  by_cases hc9 : (((1 * (rw 0)) * (rw 1)) * (rw 2)) = 0
  · refine P_aw_izt P_i162_13 ⟨by omega, by omega⟩ (P_ci_eqt (by omega)) (show P_aw _ _ _ 26 [.ref (w.2.2 0), P_z (((1 * (rw 0)) * (rw 1)) * (rw 2))] [] _ _ from ?_)
    refine P_aw_op (L' := [.ref (w.2.2 0), P_z (((1 * (rw 0)) * (rw 1)) * (rw 2))]) (st' := [.double (0 : UInt64)]) P_i162_26 rfl (show P_aw _ _ _ 27 [.ref (w.2.2 0), P_z (((1 * (rw 0)) * (rw 1)) * (rw 2))] [.double (0 : UInt64)] _ _ from ?_)
    refine P_aw_end P_i162_27 rfl rfl (fun _ => rfl) rfl ?_
    exact q0 (by first | exact Or.inl (by omega) | exact Or.inr (by omega))
  · refine P_aw_izf P_i162_13 ⟨by omega, by omega⟩ (P_ci_eqf (by omega)) (show P_aw _ _ _ 16 [.ref (w.2.2 0), P_z (((1 * (rw 0)) * (rw 1)) * (rw 2))] [] _ _ from ?_)
    refine P_aw_op (L' := [.ref (w.2.2 0), P_z (((1 * (rw 0)) * (rw 1)) * (rw 2))]) (st' := [.ref (w.2.2 0)]) P_i162_16 rfl (show P_aw _ _ _ 17 [.ref (w.2.2 0), P_z (((1 * (rw 0)) * (rw 1)) * (rw 2))] [.ref (w.2.2 0)] _ _ from ?_)
    refine P_aw_getR P_i162_17 (hw.2.1 0 (by decide)) (hw.s rfl) rfl rfl (show P_aw _ _ _ 20 [.ref (w.2.2 0), P_z (((1 * (rw 0)) * (rw 1)) * (rw 2))] [.ref (w.2.2 13)] _ _ from ?_)
    refine P_aw_call P_i162_20 rfl rfl (fun _ => rfl) rfl rfl rfl rfl (y2 := 57) (as := [.ref (w.2.2 13)]) (r0 := []) (P_inv_v (hw.2.1 13 (by decide)) (hw.s rfl) rfl rfl) (Nat.le_of_ble_eq_true rfl) (by decide) rfl (Nat.le_of_ble_eq_true rfl) (show P_aw _ _ _ 0 [.ref (w.2.2 13)] [] _ _ from ?_)
    refine P_aw_op (L' := [.ref (w.2.2 13)]) (st' := [.ref (w.2.2 13)]) P_i57_0 rfl (show P_aw _ _ _ 1 [.ref (w.2.2 13)] [.ref (w.2.2 13)] _ _ from ?_)
    refine P_aw_getv P_i57_1 (hw.2.1 13 (by decide)) (hw.s rfl) rfl rfl (hN) (show P_aw _ _ _ 4 [.ref (w.2.2 13)] [P_z nv] _ _ from ?_)
    refine P_aw_end P_i57_4 rfl rfl (fun _ => rfl) (P_ret_b (by omega)) ?_
    show P_aw _ _ _ 23 [.ref (w.2.2 0), P_z (((1 * (rw 0)) * (rw 1)) * (rw 2))] [P_z nv] _ _
    by_cases hc10 : nv = 0
    · refine P_aw_izt P_i162_23 ⟨by omega, by omega⟩ (P_ci_eqt (by omega)) (show P_aw _ _ _ 28 [.ref (w.2.2 0), P_z (((1 * (rw 0)) * (rw 1)) * (rw 2))] [] _ _ from ?_)
      refine P_aw_op (L' := [.ref (w.2.2 0), P_z (((1 * (rw 0)) * (rw 1)) * (rw 2))]) (st' := [.ref (w.2.2 0)]) P_i162_28 rfl (show P_aw _ _ _ 29 [.ref (w.2.2 0), P_z (((1 * (rw 0)) * (rw 1)) * (rw 2))] [.ref (w.2.2 0)] _ _ from ?_)
      refine P_aw_getR P_i162_29 (hw.2.1 0 (by decide)) (hw.s rfl) rfl rfl (show P_aw _ _ _ 32 [.ref (w.2.2 0), P_z (((1 * (rw 0)) * (rw 1)) * (rw 2))] [.ref (w.2.2 42)] _ _ from ?_)
      refine P_aw_op (L' := [.ref (w.2.2 0), P_z (((1 * (rw 0)) * (rw 1)) * (rw 2))]) (st' := [P_z (-1), .ref (w.2.2 42)]) P_i162_32 rfl (show P_aw _ _ _ 33 [.ref (w.2.2 0), P_z (((1 * (rw 0)) * (rw 1)) * (rw 2))] [P_z (-1), .ref (w.2.2 42)] _ _ from ?_)
      refine P_aw_op (L' := [.ref (w.2.2 0), P_z (((1 * (rw 0)) * (rw 1)) * (rw 2))]) (st' := [P_z 1000000000, P_z (-1), .ref (w.2.2 42)]) P_i162_33 rfl (show P_aw _ _ _ 36 [.ref (w.2.2 0), P_z (((1 * (rw 0)) * (rw 1)) * (rw 2))] [P_z 1000000000, P_z (-1), .ref (w.2.2 42)] _ _ from ?_)
      refine P_aw_call P_i162_36 rfl rfl (fun _ => rfl) rfl rfl rfl rfl (y2 := 133) (as := [.ref (w.2.2 42), P_z (-1), P_z 1000000000]) (r0 := []) (P_inv_v hl42 (hw.s rfl) rfl rfl) (Nat.le_of_ble_eq_true rfl) (by decide) rfl (Nat.le_of_ble_eq_true rfl) (s_walk42 (Inv := fun _ _ _ _ => True) (wo := (-1)) (most := 1000000000) hw hl42 hl43 (by omega) (by omega) hok htk (fun _ _ _ _ _ _ _ _ _ _ _ => trivial) (fun σ S a1 a2 a3 => s_cmt hw (a3 σ (fun _ _ => rfl) trivial)) hA hX hK hO (fun _ _ => trivial) (fun σ' z1 z2 z3 z4 => ?_))
      show P_aw _ _ _ 39 [.ref (w.2.2 0), P_z (((1 * (rw 0)) * (rw 1)) * (rw 2))] [] _ _
      refine P_aw_op (L' := [.ref (w.2.2 0), P_z (((1 * (rw 0)) * (rw 1)) * (rw 2))]) (st' := [.ref (w.2.2 0)]) P_i162_39 rfl (show P_aw _ _ _ 40 [.ref (w.2.2 0), P_z (((1 * (rw 0)) * (rw 1)) * (rw 2))] [.ref (w.2.2 0)] _ _ from ?_)
      refine P_aw_getR P_i162_40 (hw.2.1 0 (by decide)) (hw.s rfl) rfl rfl (show P_aw _ _ _ 43 [.ref (w.2.2 0), P_z (((1 * (rw 0)) * (rw 1)) * (rw 2))] [.ref (w.2.2 42)] _ _ from ?_)
      refine P_aw_call P_i162_43 rfl rfl (fun _ => rfl) rfl rfl rfl rfl (y2 := 131) (as := [.ref (w.2.2 42)]) (r0 := []) (P_inv_v hl42 (hw.s rfl) rfl rfl) (Nat.le_of_ble_eq_true rfl) (by decide) rfl (Nat.le_of_ble_eq_true rfl) (show P_aw _ _ _ 0 [.ref (w.2.2 42)] [] _ _ from ?_)
      refine P_aw_op (L' := [.ref (w.2.2 42)]) (st' := [.ref (w.2.2 42)]) P_i131_0 rfl (show P_aw _ _ _ 1 [.ref (w.2.2 42)] [.ref (w.2.2 42)] _ _ from ?_)
      refine P_aw_getv P_i131_1 hl42 (hw.s rfl) rfl rfl (z3.2.2.2.2.2.1) (show P_aw _ _ _ 4 [.ref (w.2.2 42)] [P_z (A_go 1000000000 (fun p ρ => A_hl (A_val V rw ρ) p (-1) cs 0) od rw (3 : Int).toNat 0 (fun _ => 0, 0, 0, 0)).2.2.2] _ _ from ?_)
      refine P_aw_end P_i131_4 rfl rfl (fun _ => rfl) rfl ?_
      show P_aw _ _ _ 46 [.ref (w.2.2 0), P_z (((1 * (rw 0)) * (rw 1)) * (rw 2))] [P_z (A_go 1000000000 (fun p ρ => A_hl (A_val V rw ρ) p (-1) cs 0) od rw (3 : Int).toNat 0 (fun _ => 0, 0, 0, 0)).2.2.2] _ _
      refine P_aw_op (L' := [.ref (w.2.2 0), P_z (((1 * (rw 0)) * (rw 1)) * (rw 2))]) (st' := [.double (FP.i2d (Int32.ofInt (A_go 1000000000 (fun p ρ => A_hl (A_val V rw ρ) p (-1) cs 0) od rw (3 : Int).toNat 0 (fun _ => 0, 0, 0, 0)).2.2.2))]) P_i162_46 P_o_i2d (show P_aw _ _ _ 47 [.ref (w.2.2 0), P_z (((1 * (rw 0)) * (rw 1)) * (rw 2))] [.double (FP.i2d (Int32.ofInt (A_go 1000000000 (fun p ρ => A_hl (A_val V rw ρ) p (-1) cs 0) od rw (3 : Int).toNat 0 (fun _ => 0, 0, 0, 0)).2.2.2))] _ _ from ?_)
      refine P_aw_op (L' := [.ref (w.2.2 0), P_z (((1 * (rw 0)) * (rw 1)) * (rw 2))]) (st' := [P_z (((1 * (rw 0)) * (rw 1)) * (rw 2)), .double (FP.i2d (Int32.ofInt (A_go 1000000000 (fun p ρ => A_hl (A_val V rw ρ) p (-1) cs 0) od rw (3 : Int).toNat 0 (fun _ => 0, 0, 0, 0)).2.2.2))]) P_i162_47 rfl (show P_aw _ _ _ 48 [.ref (w.2.2 0), P_z (((1 * (rw 0)) * (rw 1)) * (rw 2))] [P_z (((1 * (rw 0)) * (rw 1)) * (rw 2)), .double (FP.i2d (Int32.ofInt (A_go 1000000000 (fun p ρ => A_hl (A_val V rw ρ) p (-1) cs 0) od rw (3 : Int).toNat 0 (fun _ => 0, 0, 0, 0)).2.2.2))] _ _ from ?_)
      refine P_aw_op (L' := [.ref (w.2.2 0), P_z (((1 * (rw 0)) * (rw 1)) * (rw 2))]) (st' := [.double (FP.i2d (Int32.ofInt (((1 * (rw 0)) * (rw 1)) * (rw 2)))), .double (FP.i2d (Int32.ofInt (A_go 1000000000 (fun p ρ => A_hl (A_val V rw ρ) p (-1) cs 0) od rw (3 : Int).toNat 0 (fun _ => 0, 0, 0, 0)).2.2.2))]) P_i162_48 P_o_i2d (show P_aw _ _ _ 49 [.ref (w.2.2 0), P_z (((1 * (rw 0)) * (rw 1)) * (rw 2))] [.double (FP.i2d (Int32.ofInt (((1 * (rw 0)) * (rw 1)) * (rw 2)))), .double (FP.i2d (Int32.ofInt (A_go 1000000000 (fun p ρ => A_hl (A_val V rw ρ) p (-1) cs 0) od rw (3 : Int).toNat 0 (fun _ => 0, 0, 0, 0)).2.2.2))] _ _ from ?_)
      refine P_aw_op (L' := [.ref (w.2.2 0), P_z (((1 * (rw 0)) * (rw 1)) * (rw 2))]) (st' := [.double (FP.ddiv (FP.i2d (Int32.ofInt (A_go 1000000000 (fun p ρ => A_hl (A_val V rw ρ) p (-1) cs 0) od rw (3 : Int).toNat 0 (fun _ => 0, 0, 0, 0)).2.2.2)) (FP.i2d (Int32.ofInt (((1 * (rw 0)) * (rw 1)) * (rw 2)))))]) P_i162_49 (P_o_ddiv (hdd (by omega))) (show P_aw _ _ _ 50 [.ref (w.2.2 0), P_z (((1 * (rw 0)) * (rw 1)) * (rw 2))] [.double (FP.ddiv (FP.i2d (Int32.ofInt (A_go 1000000000 (fun p ρ => A_hl (A_val V rw ρ) p (-1) cs 0) od rw (3 : Int).toNat 0 (fun _ => 0, 0, 0, 0)).2.2.2)) (FP.i2d (Int32.ofInt (((1 * (rw 0)) * (rw 1)) * (rw 2)))))] _ _ from ?_)
      refine P_aw_end P_i162_50 rfl rfl (fun _ => rfl) rfl ?_
      exact q (by omega) σ' z1
    · refine P_aw_izf P_i162_23 ⟨by omega, by omega⟩ (P_ci_eqf (by omega)) (show P_aw _ _ _ 26 [.ref (w.2.2 0), P_z (((1 * (rw 0)) * (rw 1)) * (rw 2))] [] _ _ from ?_)
      refine P_aw_op (L' := [.ref (w.2.2 0), P_z (((1 * (rw 0)) * (rw 1)) * (rw 2))]) (st' := [.double (0 : UInt64)]) P_i162_26 rfl (show P_aw _ _ _ 27 [.ref (w.2.2 0), P_z (((1 * (rw 0)) * (rw 1)) * (rw 2))] [.double (0 : UInt64)] _ _ from ?_)
      refine P_aw_end P_i162_27 rfl rfl (fun _ => rfl) rfl ?_
      exact q0 (by first | exact Or.inl (by omega) | exact Or.inr (by omega))
