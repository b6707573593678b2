/-! the class, written by wip/c1.py: 72.list -/
/-- so many results, each with a key -/
def A_mk (f : Int → Int) (d : Int → Int) (n : Nat) : List A_kf := (List.range n).map (fun j : Nat => (f (j : Int), d (j : Int)))
theorem A_mk_len {f d : Int → Int} {n : Nat} : (A_mk f d n).length = n := by simp [A_mk]
theorem A_mk_at {f d : Int → Int} {n j : Nat} (h : j < n) : A_at (A_mk f d n) j = (f (j : Int), d (j : Int)) := by
  unfold A_at A_mk
  rw [List.getD_eq_getElem?_getD, List.getElem?_map, List.getElem?_range h]
  rfl
theorem A_mk_mem {f d : Int → Int} {n : Nat} {y : A_kf} (h : y ∈ A_mk f d n) : ∃ j : Nat, j < n ∧ y = (f (j : Int), d (j : Int)) := by
  unfold A_mk at h
  obtain ⟨j, hj, e⟩ := List.mem_map.mp h
  exact ⟨j, List.mem_range.mp hj, e.symm⟩
/-- only the keys have changed -/
def A_ky (σ σ' : P_A) : Prop := ∀ a b, a ≠ 40 → σ' a b = σ a b
theorem A_av_cg {σ σ' : P_A} {V : Int → Int → Int → Int} {rw ki ci : Int → Int} {gth p j : Int} (h : A_ky σ σ') : A_av σ' V rw ki ci gth p j = A_av σ V rw ki ci gth p j := by
  unfold A_av A_gv
  rw [h 37 _ (by omega), h 34 _ (by omega), h 36 _ (by omega), h 35 _ (by omega)]
theorem A_Gr_cg {σ σ' : P_A} (h : A_ky σ σ') (hG : A_Gr σ) : A_Gr σ' := ⟨fun j hj => by rw [h 34 j (by omega)]; exact hG.1 j hj, fun j hj => by rw [h 35 j (by omega)]; exact hG.2.1 j hj, fun j hj => by rw [h 36 j (by omega)]; exact hG.2.2 j hj⟩
theorem P_qz2 {Q : P_R → P_A → Prop} {v v' : Int} {s : P_A} (hv : v = v') (q : Q (.inl (some (P_z v))) s) : Q (.inl (some (P_z v'))) s := by
  subst hv
  exact q
theorem s_sil {w : P_Lw} (hw : P_Cw w) {d : Nat} {Q : P_R → P_A → Prop} {ns : Int} {tb : Int → Nat} {rw : Int → Int} {vr : Int → Int → Int} {cl : Int → Int} {V : Int → Int → Int → Int} {it : Int} {ki ci : Int → Int} {gp oi lm : Int} {σ0 : P_A} (hA0 : A_V w σ0 ns tb rw vr) (hX0 : A_X σ0 ns tb rw cl V) (hF0 : A_F σ0 ns cl it ki ci gp oi lm) (hGr0 : A_gth ki it gp = 1 → A_Gr σ0) {sz : Nat} (hz : sz ≤ 2744) {j : Int} (hj : 0 ≤ j ∧ j < it) (hfd : ∀ p : Nat, p < sz → (0 ≤ σ0 37 p ∧ σ0 37 p ≤ 2743) ∧ (A_gth ki it gp = 1 → 0 ≤ σ0 37 p ∧ σ0 37 p ≤ 13)) (hz0 : σ0 31 14 = ((sz : Nat) : Int)) : ∀ (n : Nat) (σ : P_A) (i : Int), A_ky σ0 σ → 0 ≤ i → ((sz : Nat) : Int) = i + (n : Int) → (∀ p : Nat, (p : Int) < i → σ 40 p = A_av σ0 V rw ki ci (A_gth ki it gp) (p : Int) j) → (∀ σ', A_ky σ0 σ' → (∀ p : Nat, p < sz → σ' 40 p = A_av σ0 V rw ki ci (A_gth ki it gp) (p : Int) j) → P_aw w (d + 7) 11 30 [.ref (w.2.2 31), P_z j, P_z ((sz : Nat) : Int)] [] σ' Q) → P_aw w (d + 7) 11 2 [.ref (w.2.2 31), P_z j, P_z i] [] σ Q := by
  intro n
  induction n with
  | zero =>
    intro σ i hky hi hin hp q
    have hA := A_V_cg (fun a b h => hky a b (by omega)) hA0
    have hX := A_X_cg (fun s a b => (hA0.2.2 s a b).2.1.1) (fun a b h => hky a b (by omega)) hX0
    have hF := A_F_cg (fun a b h h2 => hky a b (by omega)) hF0
    have hGr : A_gth ki it gp = 1 → A_Gr σ := fun h => A_Gr_cg hky (hGr0 h)
    have hsz : σ 31 14 = ((sz : Nat) : Int) := (hky 31 14 (by omega)).trans hz0
    have hit := hF.2.1
    refine P_aw_op (L' := [.ref (w.2.2 31), P_z j, P_z i]) (st' := [P_z i]) P_i11_2 rfl (show P_aw _ _ _ 3 [.ref (w.2.2 31), P_z j, P_z i] [P_z i] _ _ from ?_)
    refine P_aw_op (L' := [.ref (w.2.2 31), P_z j, P_z i]) (st' := [.ref (w.2.2 31), P_z i]) P_i11_3 rfl (show P_aw _ _ _ 4 [.ref (w.2.2 31), P_z j, P_z i] [.ref (w.2.2 31), P_z i] _ _ from ?_)
    refine P_aw_getv P_i11_4 (hw.2.1 31 (by decide)) (hw.s rfl) rfl rfl (hsz) (show P_aw _ _ _ 7 [.ref (w.2.2 31), P_z j, P_z i] [P_z ((sz : Nat) : Int), P_z i] _ _ from ?_)
    refine P_aw_ict P_i11_7 ⟨by omega, by omega⟩ ⟨by omega, by omega⟩ (P_ci_get (by omega)) (show P_aw _ _ _ 30 [.ref (w.2.2 31), P_z j, P_z i] [] _ _ from ?_)
    have e : i = ((sz : Nat) : Int) := (by omega); subst e; exact q σ hky (fun p h => hp p (by omega))
  | succ n ih =>
    intro σ i hky hi hin hp q
    have hA := A_V_cg (fun a b h => hky a b (by omega)) hA0
    have hX := A_X_cg (fun s a b => (hA0.2.2 s a b).2.1.1) (fun a b h => hky a b (by omega)) hX0
    have hF := A_F_cg (fun a b h h2 => hky a b (by omega)) hF0
    have hGr : A_gth ki it gp = 1 → A_Gr σ := fun h => A_Gr_cg hky (hGr0 h)
    have hsz : σ 31 14 = ((sz : Nat) : Int) := (hky 31 14 (by omega)).trans hz0
    have hit := hF.2.1
    refine P_aw_op (L' := [.ref (w.2.2 31), P_z j, P_z i]) (st' := [P_z i]) P_i11_2 rfl (show P_aw _ _ _ 3 [.ref (w.2.2 31), P_z j, P_z i] [P_z i] _ _ from ?_)
    refine P_aw_op (L' := [.ref (w.2.2 31), P_z j, P_z i]) (st' := [.ref (w.2.2 31), P_z i]) P_i11_3 rfl (show P_aw _ _ _ 4 [.ref (w.2.2 31), P_z j, P_z i] [.ref (w.2.2 31), P_z i] _ _ from ?_)
    refine P_aw_getv P_i11_4 (hw.2.1 31 (by decide)) (hw.s rfl) rfl rfl (hsz) (show P_aw _ _ _ 7 [.ref (w.2.2 31), P_z j, P_z i] [P_z ((sz : Nat) : Int), P_z i] _ _ from ?_)
    refine P_aw_icf P_i11_7 ⟨by omega, by omega⟩ ⟨by omega, by omega⟩ (P_ci_gef (by omega)) (show P_aw _ _ _ 10 [.ref (w.2.2 31), P_z j, P_z i] [] _ _ from ?_)
    refine P_aw_op (L' := [.ref (w.2.2 31), P_z j, P_z i]) (st' := [.ref (w.2.2 31)]) P_i11_10 rfl (show P_aw _ _ _ 11 [.ref (w.2.2 31), P_z j, P_z i] [.ref (w.2.2 31)] _ _ from ?_)
    refine P_aw_getR P_i11_11 (hw.2.1 31 (by decide)) (hw.s rfl) rfl rfl (show P_aw _ _ _ 14 [.ref (w.2.2 31), P_z j, P_z i] [.ref (w.2.2 40)] _ _ from ?_)
    refine P_aw_op (L' := [.ref (w.2.2 31), P_z j, P_z i]) (st' := [P_z i, .ref (w.2.2 40)]) P_i11_14 rfl (show P_aw _ _ _ 15 [.ref (w.2.2 31), P_z j, P_z i] [P_z i, .ref (w.2.2 40)] _ _ from ?_)
    refine P_aw_op (L' := [.ref (w.2.2 31), P_z j, P_z i]) (st' := [.ref (w.2.2 31), P_z i, .ref (w.2.2 40)]) P_i11_15 rfl (show P_aw _ _ _ 16 [.ref (w.2.2 31), P_z j, P_z i] [.ref (w.2.2 31), P_z i, .ref (w.2.2 40)] _ _ from ?_)
    refine P_aw_op (L' := [.ref (w.2.2 31), P_z j, P_z i]) (st' := [P_z i, .ref (w.2.2 31), P_z i, .ref (w.2.2 40)]) P_i11_16 rfl (show P_aw _ _ _ 17 [.ref (w.2.2 31), P_z j, P_z i] [P_z i, .ref (w.2.2 31), P_z i, .ref (w.2.2 40)] _ _ from ?_)
    refine P_aw_op (L' := [.ref (w.2.2 31), P_z j, P_z i]) (st' := [P_z j, P_z i, .ref (w.2.2 31), P_z i, .ref (w.2.2 40)]) P_i11_17 rfl (show P_aw _ _ _ 18 [.ref (w.2.2 31), P_z j, P_z i] [P_z j, P_z i, .ref (w.2.2 31), P_z i, .ref (w.2.2 40)] _ _ from ?_)
    have hfd1 := hfd i.toNat (by omega)
    have e : A_av σ V rw ki ci (A_gth ki it gp) i j = (A_av σ0 V rw ki ci (A_gth ki it gp) i j) := A_av_cg hky
    have e37 : σ 37 i.toNat = σ0 37 i.toNat := hky 37 _ (by omega)
    refine P_aw_call P_i11_18 rfl rfl (fun _ => rfl) rfl rfl rfl rfl (y2 := 8) (as := [.ref (w.2.2 31), P_z i, P_z j]) (r0 := [P_z i, .ref (w.2.2 40)]) (P_inv_v (hw.2.1 31 (by decide)) (hw.s rfl) rfl rfl) (Nat.le_of_ble_eq_true rfl) (by decide) rfl (Nat.le_of_ble_eq_true rfl) (s_av hw hA hX hF hGr (by omega) hj (by rw [e37]; exact hfd1) ?_)
    rw [e]
    show P_aw _ _ _ 21 [.ref (w.2.2 31), P_z j, P_z i] [P_z (A_av σ0 V rw ki ci (A_gth ki it gp) i j), P_z i, .ref (w.2.2 40)] _ _
    refine P_aw_call P_i11_21 rfl rfl (fun _ => rfl) rfl rfl rfl rfl (y2 := 179) (as := [.ref (w.2.2 40), P_z i, P_z (A_av σ0 V rw ki ci (A_gth ki it gp) i j)]) (r0 := []) (fun _ _ => rfl) (Nat.le_of_ble_eq_true rfl) (by decide) rfl (Nat.le_of_ble_eq_true rfl) (show P_aw _ _ _ 0 [.ref (w.2.2 40), P_z i, P_z (A_av σ0 V rw ki ci (A_gth ki it gp) i j)] [] _ _ from ?_)
    refine P_aw_op (L' := [.ref (w.2.2 40), P_z i, P_z (A_av σ0 V rw ki ci (A_gth ki it gp) i j)]) (st' := [P_z i]) P_i179_0 rfl (show P_aw _ _ _ 1 [.ref (w.2.2 40), P_z i, P_z (A_av σ0 V rw ki ci (A_gth ki it gp) i j)] [P_z i] _ _ from ?_)
    refine P_aw_izf P_i179_1 ⟨by omega, by omega⟩ (P_ci_ltf (by omega)) (show P_aw _ _ _ 4 [.ref (w.2.2 40), P_z i, P_z (A_av σ0 V rw ki ci (A_gth ki it gp) i j)] [] _ _ from ?_)
    refine P_aw_op (L' := [.ref (w.2.2 40), P_z i, P_z (A_av σ0 V rw ki ci (A_gth ki it gp) i j)]) (st' := [P_z i]) P_i179_4 rfl (show P_aw _ _ _ 5 [.ref (w.2.2 40), P_z i, P_z (A_av σ0 V rw ki ci (A_gth ki it gp) i j)] [P_z i] _ _ from ?_)
    refine P_aw_op (L' := [.ref (w.2.2 40), P_z i, P_z (A_av σ0 V rw ki ci (A_gth ki it gp) i j)]) (st' := [.ref (w.2.2 40), P_z i]) P_i179_5 rfl (show P_aw _ _ _ 6 [.ref (w.2.2 40), P_z i, P_z (A_av σ0 V rw ki ci (A_gth ki it gp) i j)] [.ref (w.2.2 40), P_z i] _ _ from ?_)
    refine P_aw_alen P_i179_6 (hw.2.1 40 (by decide)) (hw.s rfl) (show P_aw _ _ _ 7 [.ref (w.2.2 40), P_z i, P_z (A_av σ0 V rw ki ci (A_gth ki it gp) i j)] [P_z 2744, P_z i] _ _ from ?_)
    refine P_aw_icf P_i179_7 ⟨by omega, by omega⟩ ⟨by decide, by decide⟩ (P_ci_gef (by omega)) (show P_aw _ _ _ 10 [.ref (w.2.2 40), P_z i, P_z (A_av σ0 V rw ki ci (A_gth ki it gp) i j)] [] _ _ from ?_)
    refine P_aw_op (L' := [.ref (w.2.2 40), P_z i, P_z (A_av σ0 V rw ki ci (A_gth ki it gp) i j)]) (st' := [.ref (w.2.2 40)]) P_i179_10 rfl (show P_aw _ _ _ 11 [.ref (w.2.2 40), P_z i, P_z (A_av σ0 V rw ki ci (A_gth ki it gp) i j)] [.ref (w.2.2 40)] _ _ from ?_)
    refine P_aw_op (L' := [.ref (w.2.2 40), P_z i, P_z (A_av σ0 V rw ki ci (A_gth ki it gp) i j)]) (st' := [P_z i, .ref (w.2.2 40)]) P_i179_11 rfl (show P_aw _ _ _ 12 [.ref (w.2.2 40), P_z i, P_z (A_av σ0 V rw ki ci (A_gth ki it gp) i j)] [P_z i, .ref (w.2.2 40)] _ _ from ?_)
    refine P_aw_op (L' := [.ref (w.2.2 40), P_z i, P_z (A_av σ0 V rw ki ci (A_gth ki it gp) i j)]) (st' := [P_z (A_av σ0 V rw ki ci (A_gth ki it gp) i j), P_z i, .ref (w.2.2 40)]) P_i179_12 rfl (show P_aw _ _ _ 13 [.ref (w.2.2 40), P_z i, P_z (A_av σ0 V rw ki ci (A_gth ki it gp) i j)] [P_z (A_av σ0 V rw ki ci (A_gth ki it gp) i j), P_z i, .ref (w.2.2 40)] _ _ from ?_)
    refine P_aw_ast P_i179_13 (hw.2.1 40 (by decide)) (hw.s rfl) (by omega) (by omega) (by decide) (show P_aw _ _ _ 14 [.ref (w.2.2 40), P_z i, P_z (A_av σ0 V rw ki ci (A_gth ki it gp) i j)] [] _ _ from ?_)
    refine P_aw_end P_i179_14 rfl rfl (fun _ => rfl) rfl ?_
    show P_aw _ _ _ 24 [.ref (w.2.2 31), P_z j, P_z i] [] _ _
    refine P_aw_op (L' := [.ref (w.2.2 31), P_z j, P_z (i + 1)]) (st' := []) P_i11_24 (P_o_iinc rfl) (show P_aw _ _ _ 27 [.ref (w.2.2 31), P_z j, P_z (i + 1)] [] _ _ from ?_)
    refine P_aw_goto P_i11_27 (show P_aw _ _ _ 2 [.ref (w.2.2 31), P_z j, P_z (i + 1)] [] _ _ from ?_)
    exact ih _ (i + 1) (fun a b h => (P_u2_ne (by omega)).trans (hky a b h)) (by omega) (by omega) (fun p h => by by_cases e9 : p = i.toNat; (have e8 : ((p : Nat) : Int) = i := (by omega); rw [e8, e9, P_u2_at]); (rw [P_u2_ne (fun q => e9 q.2)]; exact hp p (by omega))) q

/-- a result of all, in another order -/
def A_srt (f d : Int → Int) (n : Nat) (σ' : P_A) : Prop := ∃ sl : List A_kf, sl.Perm (A_mk f d n) ∧ A_inc2 sl ∧ ∀ j, j < sl.length → σ' 37 j = (A_at sl j).2
theorem s_si {w : P_Lw} (hw : P_Cw w) {d : Nat} {Q : P_R → P_A → Prop} {σ : P_A} {ns : Int} {tb : Int → Nat} {rw : Int → Int} {vr : Int → Int → Int} {cl : Int → Int} {V : Int → Int → Int → Int} {it : Int} {ki ci : Int → Int} {gp oi lm : Int} (hA : A_V w σ ns tb rw vr) (hX : A_X σ ns tb rw cl V) (hF : A_F σ ns cl it ki ci gp oi lm) (hGr : A_gth ki it gp = 1 → A_Gr σ) {sz : Nat} (hz : sz ≤ 2744) {j : Int} (hj : 0 ≤ j ∧ j < it) (hfd : ∀ p : Nat, p < sz → (0 ≤ σ 37 p ∧ σ 37 p ≤ 2743) ∧ (A_gth ki it gp = 1 → 0 ≤ σ 37 p ∧ σ 37 p ≤ 13)) (hz0 : σ 31 14 = ((sz : Nat) : Int)) {F : List Int} (hF14 : F.length ≤ 14) (hFm : ∀ p : Nat, p < sz → A_av σ V rw ki ci (A_gth ki it gp) (p : Int) j ∈ F) (hrg : ∀ p : Nat, p < sz → -1000000000 < A_av σ V rw ki ci (A_gth ki it gp) (p : Int) j ∧ A_av σ V rw ki ci (A_gth ki it gp) (p : Int) j < 1000000000) (q : ∀ σ', (∀ a b, ¬ (a = 37 ∨ a = 40 ∨ a = 41) → σ' a b = σ a b) → A_srt (fun p => A_av σ V rw ki ci (A_gth ki it gp) p j) (fun p => σ 37 p.toNat) sz σ' → Q (.inl none) σ') : P_aw w (d + 7) 11 0 [.ref (w.2.2 31), P_z j, P_un] [] σ Q := by
  refine P_aw_op (L' := [.ref (w.2.2 31), P_z j, P_un]) (st' := [P_z 0]) P_i11_0 rfl (show P_aw _ _ _ 1 [.ref (w.2.2 31), P_z j, P_un] [P_z 0] _ _ from ?_)
  refine P_aw_op (L' := [.ref (w.2.2 31), P_z j, P_z 0]) (st' := []) P_i11_1 rfl (show P_aw _ _ _ 2 [.ref (w.2.2 31), P_z j, P_z 0] [] _ _ from ?_)
  refine s_sil hw hA hX hF hGr hz hj hfd hz0 sz σ 0 (fun _ _ _ => rfl) (by omega) (by omega) (fun p h => by omega) (fun σ2 r1 r2 => ?_)
  refine P_aw_op (L' := [.ref (w.2.2 31), P_z j, P_z ((sz : Nat) : Int)]) (st' := [.ref (w.2.2 31)]) P_i11_30 rfl (show P_aw _ _ _ 31 [.ref (w.2.2 31), P_z j, P_z ((sz : Nat) : Int)] [.ref (w.2.2 31)] _ _ from ?_)
  have hKF : A_KF σ2 (A_mk (fun p => A_av σ V rw ki ci (A_gth ki it gp) p j) (fun p => σ 37 p.toNat) sz) := ⟨by rw [A_mk_len]; exact (r1 31 14 (by omega)).trans hz0, by rw [A_mk_len]; exact hz, fun p hp => by rw [A_mk_len] at hp; rw [A_mk_at hp]; exact ⟨r2 p hp, (r1 37 p (by omega)).trans rfl⟩, fun y hy => by obtain ⟨p, hp, rfl⟩ := A_mk_mem hy; have := hrg p hp; exact ⟨by show -1000000000 < A_av σ V rw ki ci (A_gth ki it gp) (p : Int) j; omega, by show A_av σ V rw ki ci (A_gth ki it gp) (p : Int) j < 1000000000; omega⟩⟩
  refine P_aw_call P_i11_31 rfl rfl (fun _ => rfl) rfl rfl rfl rfl (y2 := 12) (as := [.ref (w.2.2 31)]) (r0 := []) (P_inv_v (hw.2.1 31 (by decide)) (hw.s rfl) rfl rfl) (Nat.le_of_ble_eq_true rfl) (by decide) rfl (Nat.le_of_ble_eq_true rfl) (s_so (F := F) hw (fun y hy => by obtain ⟨p, hp, rfl⟩ := A_mk_mem hy; exact hFm p hp) hF14 hKF (fun σ3 sl u1 u2 u3 u4 => ?_))
  show P_aw _ _ _ 34 [.ref (w.2.2 31), P_z j, P_z ((sz : Nat) : Int)] [] _ _
  refine P_aw_end P_i11_34 rfl rfl (fun _ => rfl) rfl ?_
  exact q σ3 (fun a b h => (u3 a b (by omega) (by omega)).trans (r1 a b (by omega))) ⟨sl, u1, u2, u4⟩

/-- the groups that there are: name, number -/
def A_nm (V : Int → Int → Int → Int) (rw : Int → Int) (gp g : Int) : Int := if g < rw ((gp - 100) / 10) then V ((gp - 100) / 10) ((gp - 100) % 10) g else 0
def A_gl (σ : P_A) (nm : Int → Int) : Nat → List A_kf
  | 0 => []
  | n + 1 => A_gl σ nm n ++ (if 0 < σ 34 n then [(nm (n : Int), (n : Int))] else [])
theorem A_gl_len {σ : P_A} {nm : Int → Int} : ∀ (n : Nat), (A_gl σ nm n).length ≤ n
  | 0 => Nat.le_refl _
  | n + 1 => by
    have := A_gl_len (σ := σ) (nm := nm) n
    simp only [A_gl, List.length_append]
    split
    · simp only [List.length_cons, List.length_nil]; omega
    · simp only [List.length_nil]; omega
theorem A_gl_mem {σ : P_A} {nm : Int → Int} {y : A_kf} : ∀ (n : Nat), y ∈ A_gl σ nm n → ∃ g : Nat, g < n ∧ y = (nm (g : Int), (g : Int)) ∧ 0 < σ 34 g
  | 0, h => by cases h
  | n + 1, h => by
    simp only [A_gl] at h
    rcases List.mem_append.mp h with h | h
    · obtain ⟨g, g1, g2, g3⟩ := A_gl_mem n h
      exact ⟨g, by omega, g2, g3⟩
    · split at h
      · next hp => exact ⟨n, by omega, List.mem_singleton.mp h, hp⟩
      · cases h
/-- keys and numbers so far -/
def A_KN (σ : P_A) (l : List A_kf) : Prop := σ 31 14 = ((l.length : Nat) : Int) ∧ ∀ j, j < l.length → σ 40 j = (A_at l j).1 ∧ σ 37 j = (A_at l j).2
theorem A_KN_add {σ : P_A} {l : List A_kf} {y : A_kf} {d : Int} (hd : d = ((l.length : Nat) : Int)) (h : A_KN σ l) : A_KN (P_u2 (P_u2 (P_u2 σ 37 d.toNat y.2) 40 d.toNat y.1) 31 14 (d + 1)) (l ++ [y]) := by
  refine ⟨by rw [P_u2_at, hd]; simp, fun j hj => ?_⟩
  simp at hj
  by_cases e : j = l.length
  · have e2 : d.toNat = j := by omega
    have e3 : A_at (l ++ [y]) j = y := by
      have := A_at_mid (A := l) (B := []) (y := y) (i := ((l.length : Nat) : Int)) rfl
      rw [Int.toNat_natCast] at this
      rw [e]; exact this
    rw [e3, e2]
    exact ⟨(P_u2_ne (by omega)).trans P_u2_at, (P_u2_ne (by omega)).trans ((P_u2_ne (by omega)).trans P_u2_at)⟩
  · have e3 : A_at (l ++ [y]) j = A_at l j := by
      unfold A_at
      rw [List.getD_eq_getElem?_getD, List.getD_eq_getElem?_getD, List.getElem?_append_left (by omega)]
    rw [e3]
    have := h.2 j (by omega)
    exact ⟨(P_u2_ne (by omega)).trans ((P_u2_ne (by omega)).trans ((P_u2_ne (by omega)).trans this.1)), (P_u2_ne (by omega)).trans ((P_u2_ne (by omega)).trans ((P_u2_ne (by omega)).trans this.2))⟩
/-- what changes while groups are listed -/
def A_lgk (σ σ' : P_A) : Prop := ∀ a b, a ≠ 37 → a ≠ 40 → ¬ (a = 31 ∧ b = 14) → σ' a b = σ a b
theorem s_lgl {w : P_Lw} (hw : P_Cw w) {d : Nat} {Q : P_R → P_A → Prop} {ns : Int} {tb : Int → Nat} {rw : Int → Int} {vr : Int → Int → Int} {cl : Int → Int} {V : Int → Int → Int → Int} {it : Int} {ki ci : Int → Int} {gp oi lm : Int} {σ0 : P_A} (hA0 : A_V w σ0 ns tb rw vr) (hX0 : A_X σ0 ns tb rw cl V) (hF0 : A_F σ0 ns cl it ki ci gp oi lm) (hgp : gp ≠ -1) (hG0 : ∀ j, j < 14 → 0 ≤ σ0 34 j ∧ σ0 34 j ≤ 1000000000) : ∀ (n : Nat) (σ : P_A) (g : Nat), A_lgk σ0 σ → g + n = 14 → A_KN σ (A_gl σ0 (A_nm V rw gp) g) → (∀ σ', A_lgk σ0 σ' → A_KN σ' (A_gl σ0 (A_nm V rw gp) 14) → P_aw w (d + 6) 10 92 [.ref (w.2.2 31), P_z 14] [] σ' Q) → P_aw w (d + 6) 10 28 [.ref (w.2.2 31), P_z ((g : Nat) : Int)] [] σ Q := by
  intro n
  induction n with
  | zero =>
    intro σ g hky hg hKN q
    have hA := A_V_cg (fun a b h => hky a b (by omega) (by omega) (by omega)) hA0
    have hX := A_X_cg (fun s a b => (hA0.2.2 s a b).2.1.1) (fun a b h => hky a b (by omega) (by omega) (by omega)) hX0
    have hF := A_F_cg (fun a b h h2 => hky a b (by omega) (by omega) (by omega)) hF0
    have hgpr := A_gp_rg hF.2.2.2.2.1
    have hlen := A_gl_len (σ := σ0) (nm := A_nm V rw gp) g
    have hns := hA.2.1
    refine P_aw_op (L' := [.ref (w.2.2 31), P_z ((g : Nat) : Int)]) (st' := [P_z ((g : Nat) : Int)]) P_i10_28 rfl (show P_aw _ _ _ 29 [.ref (w.2.2 31), P_z ((g : Nat) : Int)] [P_z ((g : Nat) : Int)] _ _ from ?_)
    refine P_aw_op (L' := [.ref (w.2.2 31), P_z ((g : Nat) : Int)]) (st' := [P_z 14, P_z ((g : Nat) : Int)]) P_i10_29 (P_o_bi (by decide)) (show P_aw _ _ _ 31 [.ref (w.2.2 31), P_z ((g : Nat) : Int)] [P_z 14, P_z ((g : Nat) : Int)] _ _ from ?_)
    refine P_aw_ict P_i10_31 ⟨by omega, by omega⟩ ⟨by decide, by decide⟩ (P_ci_get (by omega)) (show P_aw _ _ _ 92 [.ref (w.2.2 31), P_z ((g : Nat) : Int)] [] _ _ from ?_)
    obtain rfl : g = 14 := (by omega); exact q σ hky hKN
  | succ n ih =>
    intro σ g hky hg hKN q
    have hA := A_V_cg (fun a b h => hky a b (by omega) (by omega) (by omega)) hA0
    have hX := A_X_cg (fun s a b => (hA0.2.2 s a b).2.1.1) (fun a b h => hky a b (by omega) (by omega) (by omega)) hX0
    have hF := A_F_cg (fun a b h h2 => hky a b (by omega) (by omega) (by omega)) hF0
    have hgpr := A_gp_rg hF.2.2.2.2.1
    have hlen := A_gl_len (σ := σ0) (nm := A_nm V rw gp) g
    have hns := hA.2.1
    refine P_aw_op (L' := [.ref (w.2.2 31), P_z ((g : Nat) : Int)]) (st' := [P_z ((g : Nat) : Int)]) P_i10_28 rfl (show P_aw _ _ _ 29 [.ref (w.2.2 31), P_z ((g : Nat) : Int)] [P_z ((g : Nat) : Int)] _ _ from ?_)
    refine P_aw_op (L' := [.ref (w.2.2 31), P_z ((g : Nat) : Int)]) (st' := [P_z 14, P_z ((g : Nat) : Int)]) P_i10_29 (P_o_bi (by decide)) (show P_aw _ _ _ 31 [.ref (w.2.2 31), P_z ((g : Nat) : Int)] [P_z 14, P_z ((g : Nat) : Int)] _ _ from ?_)
    refine P_aw_icf P_i10_31 ⟨by omega, by omega⟩ ⟨by decide, by decide⟩ (P_ci_gef (by omega)) (show P_aw _ _ _ 34 [.ref (w.2.2 31), P_z ((g : Nat) : Int)] [] _ _ from ?_)
    refine P_aw_op (L' := [.ref (w.2.2 31), P_z ((g : Nat) : Int)]) (st' := [.ref (w.2.2 31)]) P_i10_34 rfl (show P_aw _ _ _ 35 [.ref (w.2.2 31), P_z ((g : Nat) : Int)] [.ref (w.2.2 31)] _ _ from ?_)
    refine P_aw_getR P_i10_35 (hw.2.1 31 (by decide)) (hw.s rfl) rfl rfl (show P_aw _ _ _ 38 [.ref (w.2.2 31), P_z ((g : Nat) : Int)] [.ref (w.2.2 33)] _ _ from ?_)
    refine P_aw_op (L' := [.ref (w.2.2 31), P_z ((g : Nat) : Int)]) (st' := [P_z ((g : Nat) : Int), .ref (w.2.2 33)]) P_i10_38 rfl (show P_aw _ _ _ 39 [.ref (w.2.2 31), P_z ((g : Nat) : Int)] [P_z ((g : Nat) : Int), .ref (w.2.2 33)] _ _ from ?_)
    refine P_aw_call P_i10_39 rfl rfl (fun _ => rfl) rfl rfl rfl rfl (y2 := 48) (as := [.ref (w.2.2 33), P_z ((g : Nat) : Int)]) (r0 := []) (P_inv_v (hw.2.1 33 (by decide)) (hw.s rfl) rfl rfl) (Nat.le_of_ble_eq_true rfl) (by decide) rfl (Nat.le_of_ble_eq_true rfl) (show P_aw _ _ _ 0 [.ref (w.2.2 33), P_z ((g : Nat) : Int)] [] _ _ from ?_)
    refine P_aw_op (L' := [.ref (w.2.2 33), P_z ((g : Nat) : Int)]) (st' := [.ref (w.2.2 33)]) P_i48_0 rfl (show P_aw _ _ _ 1 [.ref (w.2.2 33), P_z ((g : Nat) : Int)] [.ref (w.2.2 33)] _ _ from ?_)
    refine P_aw_getR P_i48_1 (hw.2.1 33 (by decide)) (hw.s rfl) rfl rfl (show P_aw _ _ _ 4 [.ref (w.2.2 33), P_z ((g : Nat) : Int)] [.ref (w.2.2 34)] _ _ from ?_)
    refine P_aw_op (L' := [.ref (w.2.2 33), P_z ((g : Nat) : Int)]) (st' := [P_z ((g : Nat) : Int), .ref (w.2.2 34)]) P_i48_4 rfl (show P_aw _ _ _ 5 [.ref (w.2.2 33), P_z ((g : Nat) : Int)] [P_z ((g : Nat) : Int), .ref (w.2.2 34)] _ _ from ?_)
    refine P_aw_call P_i48_5 rfl rfl (fun _ => rfl) rfl rfl rfl rfl (y2 := 178) (as := [.ref (w.2.2 34), P_z ((g : Nat) : Int)]) (r0 := []) (fun _ _ => rfl) (Nat.le_of_ble_eq_true rfl) (by decide) rfl (Nat.le_of_ble_eq_true rfl) (show P_aw _ _ _ 0 [.ref (w.2.2 34), P_z ((g : Nat) : Int)] [] _ _ from ?_)
    refine P_aw_op (L' := [.ref (w.2.2 34), P_z ((g : Nat) : Int)]) (st' := [P_z ((g : Nat) : Int)]) P_i178_0 rfl (show P_aw _ _ _ 1 [.ref (w.2.2 34), P_z ((g : Nat) : Int)] [P_z ((g : Nat) : Int)] _ _ from ?_)
    refine P_aw_izf P_i178_1 ⟨by omega, by omega⟩ (P_ci_ltf (by omega)) (show P_aw _ _ _ 4 [.ref (w.2.2 34), P_z ((g : Nat) : Int)] [] _ _ from ?_)
    refine P_aw_op (L' := [.ref (w.2.2 34), P_z ((g : Nat) : Int)]) (st' := [P_z ((g : Nat) : Int)]) P_i178_4 rfl (show P_aw _ _ _ 5 [.ref (w.2.2 34), P_z ((g : Nat) : Int)] [P_z ((g : Nat) : Int)] _ _ from ?_)
    refine P_aw_op (L' := [.ref (w.2.2 34), P_z ((g : Nat) : Int)]) (st' := [.ref (w.2.2 34), P_z ((g : Nat) : Int)]) P_i178_5 rfl (show P_aw _ _ _ 6 [.ref (w.2.2 34), P_z ((g : Nat) : Int)] [.ref (w.2.2 34), P_z ((g : Nat) : Int)] _ _ from ?_)
    refine P_aw_alen P_i178_6 (hw.2.1 34 (by decide)) (hw.s rfl) (show P_aw _ _ _ 7 [.ref (w.2.2 34), P_z ((g : Nat) : Int)] [P_z 14, P_z ((g : Nat) : Int)] _ _ from ?_)
    refine P_aw_icf P_i178_7 ⟨by omega, by omega⟩ ⟨by decide, by decide⟩ (P_ci_gef (by omega)) (show P_aw _ _ _ 10 [.ref (w.2.2 34), P_z ((g : Nat) : Int)] [] _ _ from ?_)
    refine P_aw_op (L' := [.ref (w.2.2 34), P_z ((g : Nat) : Int)]) (st' := [.ref (w.2.2 34)]) P_i178_10 rfl (show P_aw _ _ _ 11 [.ref (w.2.2 34), P_z ((g : Nat) : Int)] [.ref (w.2.2 34)] _ _ from ?_)
    refine P_aw_op (L' := [.ref (w.2.2 34), P_z ((g : Nat) : Int)]) (st' := [P_z ((g : Nat) : Int), .ref (w.2.2 34)]) P_i178_11 rfl (show P_aw _ _ _ 12 [.ref (w.2.2 34), P_z ((g : Nat) : Int)] [P_z ((g : Nat) : Int), .ref (w.2.2 34)] _ _ from ?_)
    have hg1 := hG0 g (by omega)
    refine P_aw_aldv P_i178_12 (hw.2.1 34 (by decide)) (hw.s rfl) (by omega) (by omega) (by decide) ((show σ 34 g = σ0 34 g from hky 34 g (by omega) (by omega) (by omega))) (show P_aw _ _ _ 13 [.ref (w.2.2 34), P_z ((g : Nat) : Int)] [P_z (σ0 34 g)] _ _ from ?_)
    refine P_aw_goto P_i178_13 (show P_aw _ _ _ 17 [.ref (w.2.2 34), P_z ((g : Nat) : Int)] [P_z (σ0 34 g)] _ _ from ?_)
    refine P_aw_end P_i178_17 rfl rfl (fun _ => rfl) rfl ?_
    show P_aw _ _ _ 8 [.ref (w.2.2 33), P_z ((g : Nat) : Int)] [P_z (σ0 34 g)] _ _
    refine P_aw_end P_i48_8 rfl rfl (fun _ => rfl) rfl ?_
    show P_aw _ _ _ 42 [.ref (w.2.2 31), P_z ((g : Nat) : Int)] [P_z (σ0 34 g)] _ _
    rcases Int.lt_or_le 0 (σ0 34 g) with hc2 | hc2
    · refine P_aw_izf P_i10_42 ⟨by omega, by omega⟩ (P_ci_lef (by omega)) (show P_aw _ _ _ 45 [.ref (w.2.2 31), P_z ((g : Nat) : Int)] [] _ _ from ?_)
      refine P_aw_op (L' := [.ref (w.2.2 31), P_z ((g : Nat) : Int)]) (st' := [.ref (w.2.2 31)]) P_i10_45 rfl (show P_aw _ _ _ 46 [.ref (w.2.2 31), P_z ((g : Nat) : Int)] [.ref (w.2.2 31)] _ _ from ?_)
      refine P_aw_getR P_i10_46 (hw.2.1 31 (by decide)) (hw.s rfl) rfl rfl (show P_aw _ _ _ 49 [.ref (w.2.2 31), P_z ((g : Nat) : Int)] [.ref (w.2.2 37)] _ _ from ?_)
      refine P_aw_op (L' := [.ref (w.2.2 31), P_z ((g : Nat) : Int)]) (st' := [.ref (w.2.2 31), .ref (w.2.2 37)]) P_i10_49 rfl (show P_aw _ _ _ 50 [.ref (w.2.2 31), P_z ((g : Nat) : Int)] [.ref (w.2.2 31), .ref (w.2.2 37)] _ _ from ?_)
      refine P_aw_getv P_i10_50 (hw.2.1 31 (by decide)) (hw.s rfl) rfl rfl (hKN.1) (show P_aw _ _ _ 53 [.ref (w.2.2 31), P_z ((g : Nat) : Int)] [P_z (((A_gl σ0 (A_nm V rw gp) g).length : Nat) : Int), .ref (w.2.2 37)] _ _ from ?_)
      refine P_aw_op (L' := [.ref (w.2.2 31), P_z ((g : Nat) : Int)]) (st' := [P_z ((g : Nat) : Int), P_z (((A_gl σ0 (A_nm V rw gp) g).length : Nat) : Int), .ref (w.2.2 37)]) P_i10_53 rfl (show P_aw _ _ _ 54 [.ref (w.2.2 31), P_z ((g : Nat) : Int)] [P_z ((g : Nat) : Int), P_z (((A_gl σ0 (A_nm V rw gp) g).length : Nat) : Int), .ref (w.2.2 37)] _ _ from ?_)
      refine P_aw_call P_i10_54 rfl rfl (fun _ => rfl) rfl rfl rfl rfl (y2 := 179) (as := [.ref (w.2.2 37), P_z (((A_gl σ0 (A_nm V rw gp) g).length : Nat) : Int), P_z ((g : Nat) : Int)]) (r0 := []) (fun _ _ => rfl) (Nat.le_of_ble_eq_true rfl) (by decide) rfl (Nat.le_of_ble_eq_true rfl) (show P_aw _ _ _ 0 [.ref (w.2.2 37), P_z (((A_gl σ0 (A_nm V rw gp) g).length : Nat) : Int), P_z ((g : Nat) : Int)] [] _ _ from ?_)
      refine P_aw_op (L' := [.ref (w.2.2 37), P_z (((A_gl σ0 (A_nm V rw gp) g).length : Nat) : Int), P_z ((g : Nat) : Int)]) (st' := [P_z (((A_gl σ0 (A_nm V rw gp) g).length : Nat) : Int)]) P_i179_0 rfl (show P_aw _ _ _ 1 [.ref (w.2.2 37), P_z (((A_gl σ0 (A_nm V rw gp) g).length : Nat) : Int), P_z ((g : Nat) : Int)] [P_z (((A_gl σ0 (A_nm V rw gp) g).length : Nat) : Int)] _ _ from ?_)
      refine P_aw_izf P_i179_1 ⟨by omega, by omega⟩ (P_ci_ltf (by omega)) (show P_aw _ _ _ 4 [.ref (w.2.2 37), P_z (((A_gl σ0 (A_nm V rw gp) g).length : Nat) : Int), P_z ((g : Nat) : Int)] [] _ _ from ?_)
      refine P_aw_op (L' := [.ref (w.2.2 37), P_z (((A_gl σ0 (A_nm V rw gp) g).length : Nat) : Int), P_z ((g : Nat) : Int)]) (st' := [P_z (((A_gl σ0 (A_nm V rw gp) g).length : Nat) : Int)]) P_i179_4 rfl (show P_aw _ _ _ 5 [.ref (w.2.2 37), P_z (((A_gl σ0 (A_nm V rw gp) g).length : Nat) : Int), P_z ((g : Nat) : Int)] [P_z (((A_gl σ0 (A_nm V rw gp) g).length : Nat) : Int)] _ _ from ?_)
      refine P_aw_op (L' := [.ref (w.2.2 37), P_z (((A_gl σ0 (A_nm V rw gp) g).length : Nat) : Int), P_z ((g : Nat) : Int)]) (st' := [.ref (w.2.2 37), P_z (((A_gl σ0 (A_nm V rw gp) g).length : Nat) : Int)]) P_i179_5 rfl (show P_aw _ _ _ 6 [.ref (w.2.2 37), P_z (((A_gl σ0 (A_nm V rw gp) g).length : Nat) : Int), P_z ((g : Nat) : Int)] [.ref (w.2.2 37), P_z (((A_gl σ0 (A_nm V rw gp) g).length : Nat) : Int)] _ _ from ?_)
      refine P_aw_alen P_i179_6 (hw.2.1 37 (by decide)) (hw.s rfl) (show P_aw _ _ _ 7 [.ref (w.2.2 37), P_z (((A_gl σ0 (A_nm V rw gp) g).length : Nat) : Int), P_z ((g : Nat) : Int)] [P_z 2744, P_z (((A_gl σ0 (A_nm V rw gp) g).length : Nat) : Int)] _ _ from ?_)
      refine P_aw_icf P_i179_7 ⟨by omega, by omega⟩ ⟨by decide, by decide⟩ (P_ci_gef (by omega)) (show P_aw _ _ _ 10 [.ref (w.2.2 37), P_z (((A_gl σ0 (A_nm V rw gp) g).length : Nat) : Int), P_z ((g : Nat) : Int)] [] _ _ from ?_)
      refine P_aw_op (L' := [.ref (w.2.2 37), P_z (((A_gl σ0 (A_nm V rw gp) g).length : Nat) : Int), P_z ((g : Nat) : Int)]) (st' := [.ref (w.2.2 37)]) P_i179_10 rfl (show P_aw _ _ _ 11 [.ref (w.2.2 37), P_z (((A_gl σ0 (A_nm V rw gp) g).length : Nat) : Int), P_z ((g : Nat) : Int)] [.ref (w.2.2 37)] _ _ from ?_)
      refine P_aw_op (L' := [.ref (w.2.2 37), P_z (((A_gl σ0 (A_nm V rw gp) g).length : Nat) : Int), P_z ((g : Nat) : Int)]) (st' := [P_z (((A_gl σ0 (A_nm V rw gp) g).length : Nat) : Int), .ref (w.2.2 37)]) P_i179_11 rfl (show P_aw _ _ _ 12 [.ref (w.2.2 37), P_z (((A_gl σ0 (A_nm V rw gp) g).length : Nat) : Int), P_z ((g : Nat) : Int)] [P_z (((A_gl σ0 (A_nm V rw gp) g).length : Nat) : Int), .ref (w.2.2 37)] _ _ from ?_)
      refine P_aw_op (L' := [.ref (w.2.2 37), P_z (((A_gl σ0 (A_nm V rw gp) g).length : Nat) : Int), P_z ((g : Nat) : Int)]) (st' := [P_z ((g : Nat) : Int), P_z (((A_gl σ0 (A_nm V rw gp) g).length : Nat) : Int), .ref (w.2.2 37)]) P_i179_12 rfl (show P_aw _ _ _ 13 [.ref (w.2.2 37), P_z (((A_gl σ0 (A_nm V rw gp) g).length : Nat) : Int), P_z ((g : Nat) : Int)] [P_z ((g : Nat) : Int), P_z (((A_gl σ0 (A_nm V rw gp) g).length : Nat) : Int), .ref (w.2.2 37)] _ _ from ?_)
      refine P_aw_ast P_i179_13 (hw.2.1 37 (by decide)) (hw.s rfl) (by omega) (by omega) (by decide) (show P_aw _ _ _ 14 [.ref (w.2.2 37), P_z (((A_gl σ0 (A_nm V rw gp) g).length : Nat) : Int), P_z ((g : Nat) : Int)] [] _ _ from ?_)
      refine P_aw_end P_i179_14 rfl rfl (fun _ => rfl) rfl ?_
      show P_aw _ _ _ 57 [.ref (w.2.2 31), P_z ((g : Nat) : Int)] [] _ _
      refine P_aw_op (L' := [.ref (w.2.2 31), P_z ((g : Nat) : Int)]) (st' := [.ref (w.2.2 31)]) P_i10_57 rfl (show P_aw _ _ _ 58 [.ref (w.2.2 31), P_z ((g : Nat) : Int)] [.ref (w.2.2 31)] _ _ from ?_)
      refine P_aw_getR P_i10_58 (hw.2.1 31 (by decide)) (hw.s rfl) rfl rfl (show P_aw _ _ _ 61 [.ref (w.2.2 31), P_z ((g : Nat) : Int)] [.ref (w.2.2 40)] _ _ from ?_)
      refine P_aw_op (L' := [.ref (w.2.2 31), P_z ((g : Nat) : Int)]) (st' := [.ref (w.2.2 31), .ref (w.2.2 40)]) P_i10_61 rfl (show P_aw _ _ _ 62 [.ref (w.2.2 31), P_z ((g : Nat) : Int)] [.ref (w.2.2 31), .ref (w.2.2 40)] _ _ from ?_)
      refine P_aw_getv P_i10_62 (hw.2.1 31 (by decide)) (hw.s rfl) rfl rfl ((P_u2_ne (by omega)).trans (hKN.1)) (show P_aw _ _ _ 65 [.ref (w.2.2 31), P_z ((g : Nat) : Int)] [P_z (((A_gl σ0 (A_nm V rw gp) g).length : Nat) : Int), .ref (w.2.2 40)] _ _ from ?_)
      refine P_aw_op (L' := [.ref (w.2.2 31), P_z ((g : Nat) : Int)]) (st' := [.ref (w.2.2 31), P_z (((A_gl σ0 (A_nm V rw gp) g).length : Nat) : Int), .ref (w.2.2 40)]) P_i10_65 rfl (show P_aw _ _ _ 66 [.ref (w.2.2 31), P_z ((g : Nat) : Int)] [.ref (w.2.2 31), P_z (((A_gl σ0 (A_nm V rw gp) g).length : Nat) : Int), .ref (w.2.2 40)] _ _ from ?_)
      refine P_aw_getR P_i10_66 (hw.2.1 31 (by decide)) (hw.s rfl) rfl rfl (show P_aw _ _ _ 69 [.ref (w.2.2 31), P_z ((g : Nat) : Int)] [.ref (w.2.2 33), P_z (((A_gl σ0 (A_nm V rw gp) g).length : Nat) : Int), .ref (w.2.2 40)] _ _ from ?_)
      refine P_aw_op (L' := [.ref (w.2.2 31), P_z ((g : Nat) : Int)]) (st' := [P_z ((g : Nat) : Int), .ref (w.2.2 33), P_z (((A_gl σ0 (A_nm V rw gp) g).length : Nat) : Int), .ref (w.2.2 40)]) P_i10_69 rfl (show P_aw _ _ _ 70 [.ref (w.2.2 31), P_z ((g : Nat) : Int)] [P_z ((g : Nat) : Int), .ref (w.2.2 33), P_z (((A_gl σ0 (A_nm V rw gp) g).length : Nat) : Int), .ref (w.2.2 40)] _ _ from ?_)
      refine P_aw_call P_i10_70 rfl rfl (fun _ => rfl) rfl rfl rfl rfl (y2 := 49) (as := [.ref (w.2.2 33), P_z ((g : Nat) : Int)]) (r0 := [P_z (((A_gl σ0 (A_nm V rw gp) g).length : Nat) : Int), .ref (w.2.2 40)]) (P_inv_v (hw.2.1 33 (by decide)) (hw.s rfl) rfl rfl) (Nat.le_of_ble_eq_true rfl) (by decide) rfl (Nat.le_of_ble_eq_true rfl) (show P_aw _ _ _ 0 [.ref (w.2.2 33), P_z ((g : Nat) : Int)] [] _ _ from ?_)
      refine P_aw_op (L' := [.ref (w.2.2 33), P_z ((g : Nat) : Int)]) (st' := [.ref (w.2.2 33)]) P_i49_0 rfl (show P_aw _ _ _ 1 [.ref (w.2.2 33), P_z ((g : Nat) : Int)] [.ref (w.2.2 33)] _ _ from ?_)
      refine P_aw_getR P_i49_1 (hw.2.1 33 (by decide)) (hw.s rfl) rfl rfl (show P_aw _ _ _ 4 [.ref (w.2.2 33), P_z ((g : Nat) : Int)] [.ref (w.2.2 6)] _ _ from ?_)
      refine P_aw_op (L' := [.ref (w.2.2 33), P_z ((g : Nat) : Int)]) (st' := [.ref (w.2.2 33), .ref (w.2.2 6)]) P_i49_4 rfl (show P_aw _ _ _ 5 [.ref (w.2.2 33), P_z ((g : Nat) : Int)] [.ref (w.2.2 33), .ref (w.2.2 6)] _ _ from ?_)
      refine P_aw_getR P_i49_5 (hw.2.1 33 (by decide)) (hw.s rfl) rfl rfl (show P_aw _ _ _ 8 [.ref (w.2.2 33), P_z ((g : Nat) : Int)] [.ref (w.2.2 6), .ref (w.2.2 6)] _ _ from ?_)
      refine P_aw_call P_i49_8 rfl rfl (fun _ => rfl) rfl rfl rfl rfl (y2 := 31) (as := [.ref (w.2.2 6)]) (r0 := [.ref (w.2.2 6)]) (P_inv_v (hw.2.1 6 (by decide)) (hw.s rfl) rfl rfl) (Nat.le_of_ble_eq_true rfl) (by decide) rfl (Nat.le_of_ble_eq_true rfl) (show P_aw _ _ _ 0 [.ref (w.2.2 6)] [] _ _ from ?_)
      refine P_aw_op (L' := [.ref (w.2.2 6)]) (st' := [.ref (w.2.2 6)]) P_i31_0 rfl (show P_aw _ _ _ 1 [.ref (w.2.2 6)] [.ref (w.2.2 6)] _ _ from ?_)
      have hg3 := A_gp_rg hF.2.2.2.2.1
      refine P_aw_getv P_i31_1 (hw.2.1 6 (by decide)) (hw.s rfl) rfl rfl ((P_u2_ne (by omega)).trans (hF.2.2.2.1)) (show P_aw _ _ _ 4 [.ref (w.2.2 6)] [P_z gp] _ _ from ?_)
      refine P_aw_end P_i31_4 rfl rfl (fun _ => rfl) rfl ?_
      show P_aw _ _ _ 11 [.ref (w.2.2 33), P_z ((g : Nat) : Int)] [P_z gp, .ref (w.2.2 6)] _ _
      refine P_aw_call P_i49_11 rfl rfl (fun _ => rfl) rfl rfl rfl rfl (y2 := 176) (as := [P_z gp]) (r0 := [.ref (w.2.2 6)]) (fun _ _ => rfl) (Nat.le_of_ble_eq_true rfl) (by decide) rfl (Nat.le_of_ble_eq_true rfl) (show P_aw _ _ _ 0 [P_z gp] [] _ _ from ?_)
      refine P_aw_op (L' := [P_z gp]) (st' := [P_z gp]) P_i176_0 rfl (show P_aw _ _ _ 1 [P_z gp] [P_z gp] _ _ from ?_)
      refine P_aw_op (L' := [P_z gp]) (st' := [P_z 100, P_z gp]) P_i176_1 (P_o_bi (by decide)) (show P_aw _ _ _ 3 [P_z gp] [P_z 100, P_z gp] _ _ from ?_)
      refine P_aw_op (L' := [P_z gp]) (st' := [P_z (gp - 100)]) P_i176_3 P_o_isub (show P_aw _ _ _ 4 [P_z gp] [P_z (gp - 100)] _ _ from ?_)
      refine P_aw_op (L' := [P_z gp]) (st' := [P_z 10, P_z (gp - 100)]) P_i176_4 (P_o_bi (by decide)) (show P_aw _ _ _ 6 [P_z gp] [P_z 10, P_z (gp - 100)] _ _ from ?_)
      refine P_aw_op (L' := [P_z gp]) (st' := [P_z ((gp - 100) / 10)]) P_i176_6 (P_o_idiv (by omega) (by omega) (by omega) (by omega)) (show P_aw _ _ _ 7 [P_z gp] [P_z ((gp - 100) / 10)] _ _ from ?_)
      refine P_aw_end P_i176_7 rfl rfl (fun _ => rfl) rfl ?_
      show P_aw _ _ _ 14 [.ref (w.2.2 33), P_z ((g : Nat) : Int)] [P_z ((gp - 100) / 10), .ref (w.2.2 6)] _ _
      refine P_aw_call P_i49_14 rfl rfl (fun _ => rfl) rfl rfl rfl rfl (y2 := 38) (as := [.ref (w.2.2 6), P_z ((gp - 100) / 10)]) (r0 := []) (P_inv_v (hw.2.1 6 (by decide)) (hw.s rfl) rfl rfl) (Nat.le_of_ble_eq_true rfl) (by decide) rfl (Nat.le_of_ble_eq_true rfl) (show P_aw _ _ _ 0 [.ref (w.2.2 6), P_z ((gp - 100) / 10), P_un] [] _ _ from ?_)
      refine P_aw_op (L' := [.ref (w.2.2 6), P_z ((gp - 100) / 10), P_un]) (st' := [P_z ((gp - 100) / 10)]) P_i38_0 rfl (show P_aw _ _ _ 1 [.ref (w.2.2 6), P_z ((gp - 100) / 10), P_un] [P_z ((gp - 100) / 10)] _ _ from ?_)
      refine P_aw_izf P_i38_1 ⟨by omega, by omega⟩ (P_ci_ltf (by omega)) (show P_aw _ _ _ 4 [.ref (w.2.2 6), P_z ((gp - 100) / 10), P_un] [] _ _ from ?_)
      refine P_aw_op (L' := [.ref (w.2.2 6), P_z ((gp - 100) / 10), P_un]) (st' := [P_z ((gp - 100) / 10)]) P_i38_4 rfl (show P_aw _ _ _ 5 [.ref (w.2.2 6), P_z ((gp - 100) / 10), P_un] [P_z ((gp - 100) / 10)] _ _ from ?_)
      refine P_aw_op (L' := [.ref (w.2.2 6), P_z ((gp - 100) / 10), P_un]) (st' := [.ref (w.2.2 6), P_z ((gp - 100) / 10)]) P_i38_5 rfl (show P_aw _ _ _ 6 [.ref (w.2.2 6), P_z ((gp - 100) / 10), P_un] [.ref (w.2.2 6), P_z ((gp - 100) / 10)] _ _ from ?_)
      refine P_aw_getv P_i38_6 (hw.2.1 6 (by decide)) (hw.s rfl) rfl rfl ((P_u2_ne (by omega)).trans (hA.1)) (show P_aw _ _ _ 9 [.ref (w.2.2 6), P_z ((gp - 100) / 10), P_un] [P_z ns, P_z ((gp - 100) / 10)] _ _ from ?_)
      refine P_aw_icf P_i38_9 ⟨by omega, by omega⟩ ⟨by omega, by omega⟩ (P_ci_gef (by omega)) (show P_aw _ _ _ 12 [.ref (w.2.2 6), P_z ((gp - 100) / 10), P_un] [] _ _ from ?_)
      refine P_aw_op (L' := [.ref (w.2.2 6), P_z ((gp - 100) / 10), P_un]) (st' := [P_z ((gp - 100) / 10)]) P_i38_12 rfl (show P_aw _ _ _ 13 [.ref (w.2.2 6), P_z ((gp - 100) / 10), P_un] [P_z ((gp - 100) / 10)] _ _ from ?_)
      refine P_aw_op (L' := [.ref (w.2.2 6), P_z ((gp - 100) / 10), P_un]) (st' := [.ref (w.2.2 6), P_z ((gp - 100) / 10)]) P_i38_13 rfl (show P_aw _ _ _ 14 [.ref (w.2.2 6), P_z ((gp - 100) / 10), P_un] [.ref (w.2.2 6), P_z ((gp - 100) / 10)] _ _ from ?_)
      refine P_aw_getR P_i38_14 (hw.2.1 6 (by decide)) (hw.s rfl) rfl rfl (show P_aw _ _ _ 17 [.ref (w.2.2 6), P_z ((gp - 100) / 10), P_un] [.ref (w.2.2 9), P_z ((gp - 100) / 10)] _ _ from ?_)
      refine P_aw_rlen P_i38_17 (hw.2.1 9 (by decide)) (hw.s rfl) (show P_aw _ _ _ 18 [.ref (w.2.2 6), P_z ((gp - 100) / 10), P_un] [P_z 3, P_z ((gp - 100) / 10)] _ _ from ?_)
      refine P_aw_ict P_i38_18 ⟨by omega, by omega⟩ ⟨by decide, by decide⟩ (P_ci_ltt (by omega)) (show P_aw _ _ _ 26 [.ref (w.2.2 6), P_z ((gp - 100) / 10), P_un] [] _ _ from ?_)
      refine P_aw_op (L' := [.ref (w.2.2 6), P_z ((gp - 100) / 10), P_un]) (st' := [.ref (w.2.2 6)]) P_i38_26 rfl (show P_aw _ _ _ 27 [.ref (w.2.2 6), P_z ((gp - 100) / 10), P_un] [.ref (w.2.2 6)] _ _ from ?_)
      refine P_aw_getR P_i38_27 (hw.2.1 6 (by decide)) (hw.s rfl) rfl rfl (show P_aw _ _ _ 30 [.ref (w.2.2 6), P_z ((gp - 100) / 10), P_un] [.ref (w.2.2 9)] _ _ from ?_)
      refine P_aw_op (L' := [.ref (w.2.2 6), P_z ((gp - 100) / 10), P_un]) (st' := [P_z ((gp - 100) / 10), .ref (w.2.2 9)]) P_i38_30 rfl (show P_aw _ _ _ 31 [.ref (w.2.2 6), P_z ((gp - 100) / 10), P_un] [P_z ((gp - 100) / 10), .ref (w.2.2 9)] _ _ from ?_)
      have hg4 := (hA.2.2 ((gp - 100) / 10) (by omega) (by omega)).2.1.1
      refine P_aw_rldv P_i38_31 (hw.2.1 9 (by decide)) (hw.s rfl) (by decide) (by omega) (by omega) (by decide) ((P_u2_ne (by omega)).trans ((hA.2.2 ((gp - 100) / 10) (by omega) (by omega)).1)) (by omega) (show P_aw _ _ _ 32 [.ref (w.2.2 6), P_z ((gp - 100) / 10), P_un] [.ref (w.2.2 (tb ((gp - 100) / 10)))] _ _ from ?_)
      refine P_aw_op (L' := [.ref (w.2.2 6), P_z ((gp - 100) / 10), .ref (w.2.2 (tb ((gp - 100) / 10)))]) (st' := []) P_i38_32 rfl (show P_aw _ _ _ 33 [.ref (w.2.2 6), P_z ((gp - 100) / 10), .ref (w.2.2 (tb ((gp - 100) / 10)))] [] _ _ from ?_)
      refine P_aw_op (L' := [.ref (w.2.2 6), P_z ((gp - 100) / 10), .ref (w.2.2 (tb ((gp - 100) / 10)))]) (st' := [.ref (w.2.2 (tb ((gp - 100) / 10)))]) P_i38_33 rfl (show P_aw _ _ _ 34 [.ref (w.2.2 6), P_z ((gp - 100) / 10), .ref (w.2.2 (tb ((gp - 100) / 10)))] [.ref (w.2.2 (tb ((gp - 100) / 10)))] _ _ from ?_)
      refine P_aw_brt P_i38_34 rfl (show P_aw _ _ _ 44 [.ref (w.2.2 6), P_z ((gp - 100) / 10), .ref (w.2.2 (tb ((gp - 100) / 10)))] [] _ _ from ?_)
      refine P_aw_op (L' := [.ref (w.2.2 6), P_z ((gp - 100) / 10), .ref (w.2.2 (tb ((gp - 100) / 10)))]) (st' := [.ref (w.2.2 (tb ((gp - 100) / 10)))]) P_i38_44 rfl (show P_aw _ _ _ 45 [.ref (w.2.2 6), P_z ((gp - 100) / 10), .ref (w.2.2 (tb ((gp - 100) / 10)))] [.ref (w.2.2 (tb ((gp - 100) / 10)))] _ _ from ?_)
      refine P_aw_end P_i38_45 rfl rfl (fun _ => rfl) rfl ?_
      show P_aw _ _ _ 17 [.ref (w.2.2 33), P_z ((g : Nat) : Int)] [.ref (w.2.2 (tb ((gp - 100) / 10)))] _ _
      refine P_aw_op (L' := [.ref (w.2.2 33), P_z ((g : Nat) : Int)]) (st' := [P_z ((g : Nat) : Int), .ref (w.2.2 (tb ((gp - 100) / 10)))]) P_i49_17 rfl (show P_aw _ _ _ 18 [.ref (w.2.2 33), P_z ((g : Nat) : Int)] [P_z ((g : Nat) : Int), .ref (w.2.2 (tb ((gp - 100) / 10)))] _ _ from ?_)
      refine P_aw_op (L' := [.ref (w.2.2 33), P_z ((g : Nat) : Int)]) (st' := [.ref (w.2.2 33), P_z ((g : Nat) : Int), .ref (w.2.2 (tb ((gp - 100) / 10)))]) P_i49_18 rfl (show P_aw _ _ _ 19 [.ref (w.2.2 33), P_z ((g : Nat) : Int)] [.ref (w.2.2 33), P_z ((g : Nat) : Int), .ref (w.2.2 (tb ((gp - 100) / 10)))] _ _ from ?_)
      refine P_aw_getR P_i49_19 (hw.2.1 33 (by decide)) (hw.s rfl) rfl rfl (show P_aw _ _ _ 22 [.ref (w.2.2 33), P_z ((g : Nat) : Int)] [.ref (w.2.2 6), P_z ((g : Nat) : Int), .ref (w.2.2 (tb ((gp - 100) / 10)))] _ _ from ?_)
      refine P_aw_call P_i49_22 rfl rfl (fun _ => rfl) rfl rfl rfl rfl (y2 := 31) (as := [.ref (w.2.2 6)]) (r0 := [P_z ((g : Nat) : Int), .ref (w.2.2 (tb ((gp - 100) / 10)))]) (P_inv_v (hw.2.1 6 (by decide)) (hw.s rfl) rfl rfl) (Nat.le_of_ble_eq_true rfl) (by decide) rfl (Nat.le_of_ble_eq_true rfl) (show P_aw _ _ _ 0 [.ref (w.2.2 6)] [] _ _ from ?_)
      refine P_aw_op (L' := [.ref (w.2.2 6)]) (st' := [.ref (w.2.2 6)]) P_i31_0 rfl (show P_aw _ _ _ 1 [.ref (w.2.2 6)] [.ref (w.2.2 6)] _ _ from ?_)
      have hg5 := A_gp_rg hF.2.2.2.2.1
      refine P_aw_getv P_i31_1 (hw.2.1 6 (by decide)) (hw.s rfl) rfl rfl ((P_u2_ne (by omega)).trans (hF.2.2.2.1)) (show P_aw _ _ _ 4 [.ref (w.2.2 6)] [P_z gp] _ _ from ?_)
      refine P_aw_end P_i31_4 rfl rfl (fun _ => rfl) rfl ?_
      show P_aw _ _ _ 25 [.ref (w.2.2 33), P_z ((g : Nat) : Int)] [P_z gp, P_z ((g : Nat) : Int), .ref (w.2.2 (tb ((gp - 100) / 10)))] _ _
      refine P_aw_call P_i49_25 rfl rfl (fun _ => rfl) rfl rfl rfl rfl (y2 := 177) (as := [P_z gp]) (r0 := [P_z ((g : Nat) : Int), .ref (w.2.2 (tb ((gp - 100) / 10)))]) (fun _ _ => rfl) (Nat.le_of_ble_eq_true rfl) (by decide) rfl (Nat.le_of_ble_eq_true rfl) (show P_aw _ _ _ 0 [P_z gp] [] _ _ from ?_)
      refine P_aw_op (L' := [P_z gp]) (st' := [P_z gp]) P_i177_0 rfl (show P_aw _ _ _ 1 [P_z gp] [P_z gp] _ _ from ?_)
      refine P_aw_op (L' := [P_z gp]) (st' := [P_z 100, P_z gp]) P_i177_1 (P_o_bi (by decide)) (show P_aw _ _ _ 3 [P_z gp] [P_z 100, P_z gp] _ _ from ?_)
      refine P_aw_op (L' := [P_z gp]) (st' := [P_z (gp - 100)]) P_i177_3 P_o_isub (show P_aw _ _ _ 4 [P_z gp] [P_z (gp - 100)] _ _ from ?_)
      refine P_aw_op (L' := [P_z gp]) (st' := [P_z 10, P_z (gp - 100)]) P_i177_4 (P_o_bi (by decide)) (show P_aw _ _ _ 6 [P_z gp] [P_z 10, P_z (gp - 100)] _ _ from ?_)
      refine P_aw_op (L' := [P_z gp]) (st' := [P_z ((gp - 100) % 10)]) P_i177_6 (P_o_irem (by omega) (by omega) (by omega) (by omega)) (show P_aw _ _ _ 7 [P_z gp] [P_z ((gp - 100) % 10)] _ _ from ?_)
      refine P_aw_end P_i177_7 rfl rfl (fun _ => rfl) rfl ?_
      show P_aw _ _ _ 28 [.ref (w.2.2 33), P_z ((g : Nat) : Int)] [P_z ((gp - 100) % 10), P_z ((g : Nat) : Int), .ref (w.2.2 (tb ((gp - 100) / 10)))] _ _
      refine P_aw_call P_i49_28 rfl rfl (fun _ => rfl) rfl rfl rfl rfl (y2 := 122) (as := [.ref (w.2.2 (tb ((gp - 100) / 10))), P_z ((g : Nat) : Int), P_z ((gp - 100) % 10)]) (r0 := []) (P_inv_v (hA.2.2 ((gp - 100) / 10) (by omega) (by omega)).2.1.2.1.2 (hA.2.2 ((gp - 100) / 10) (by omega) (by omega)).2.1.2.1.1 rfl rfl) (Nat.le_of_ble_eq_true rfl) (by decide) rfl (Nat.le_of_ble_eq_true rfl) (show P_aw _ _ _ 0 [.ref (w.2.2 (tb ((gp - 100) / 10))), P_z ((g : Nat) : Int), P_z ((gp - 100) % 10), P_un] [] _ _ from ?_)
      refine P_aw_op (L' := [.ref (w.2.2 (tb ((gp - 100) / 10))), P_z ((g : Nat) : Int), P_z ((gp - 100) % 10), P_un]) (st' := [P_z ((g : Nat) : Int)]) P_i122_0 rfl (show P_aw _ _ _ 1 [.ref (w.2.2 (tb ((gp - 100) / 10))), P_z ((g : Nat) : Int), P_z ((gp - 100) % 10), P_un] [P_z ((g : Nat) : Int)] _ _ from ?_)
      refine P_aw_izf P_i122_1 ⟨by omega, by omega⟩ (P_ci_ltf (by omega)) (show P_aw _ _ _ 4 [.ref (w.2.2 (tb ((gp - 100) / 10))), P_z ((g : Nat) : Int), P_z ((gp - 100) % 10), P_un] [] _ _ from ?_)
      refine P_aw_op (L' := [.ref (w.2.2 (tb ((gp - 100) / 10))), P_z ((g : Nat) : Int), P_z ((gp - 100) % 10), P_un]) (st' := [P_z ((g : Nat) : Int)]) P_i122_4 rfl (show P_aw _ _ _ 5 [.ref (w.2.2 (tb ((gp - 100) / 10))), P_z ((g : Nat) : Int), P_z ((gp - 100) % 10), P_un] [P_z ((g : Nat) : Int)] _ _ from ?_)
      refine P_aw_op (L' := [.ref (w.2.2 (tb ((gp - 100) / 10))), P_z ((g : Nat) : Int), P_z ((gp - 100) % 10), P_un]) (st' := [.ref (w.2.2 (tb ((gp - 100) / 10))), P_z ((g : Nat) : Int)]) P_i122_5 rfl (show P_aw _ _ _ 6 [.ref (w.2.2 (tb ((gp - 100) / 10))), P_z ((g : Nat) : Int), P_z ((gp - 100) % 10), P_un] [.ref (w.2.2 (tb ((gp - 100) / 10))), P_z ((g : Nat) : Int)] _ _ from ?_)
      have hg6 := (hA.2.2 ((gp - 100) / 10) (by omega) (by omega)).2.2.2.1
      refine P_aw_getv P_i122_6 (hA.2.2 ((gp - 100) / 10) (by omega) (by omega)).2.1.2.1.2 (hA.2.2 ((gp - 100) / 10) (by omega) (by omega)).2.1.2.1.1 rfl rfl ((P_u2_ne (by omega)).trans ((hA.2.2 ((gp - 100) / 10) (by omega) (by omega)).2.2.1)) (show P_aw _ _ _ 9 [.ref (w.2.2 (tb ((gp - 100) / 10))), P_z ((g : Nat) : Int), P_z ((gp - 100) % 10), P_un] [P_z (rw ((gp - 100) / 10)), P_z ((g : Nat) : Int)] _ _ from ?_)
      rcases Int.lt_or_le ((g : Nat) : Int) (rw ((gp - 100) / 10)) with hc7 | hc7
      · refine P_aw_icf P_i122_9 ⟨by omega, by omega⟩ ⟨by omega, by omega⟩ (P_ci_gef (by omega)) (show P_aw _ _ _ 12 [.ref (w.2.2 (tb ((gp - 100) / 10))), P_z ((g : Nat) : Int), P_z ((gp - 100) % 10), P_un] [] _ _ from ?_)
        refine P_aw_op (L' := [.ref (w.2.2 (tb ((gp - 100) / 10))), P_z ((g : Nat) : Int), P_z ((gp - 100) % 10), P_un]) (st' := [P_z ((gp - 100) % 10)]) P_i122_12 rfl (show P_aw _ _ _ 13 [.ref (w.2.2 (tb ((gp - 100) / 10))), P_z ((g : Nat) : Int), P_z ((gp - 100) % 10), P_un] [P_z ((gp - 100) % 10)] _ _ from ?_)
        refine P_aw_izf P_i122_13 ⟨by omega, by omega⟩ (P_ci_ltf (by omega)) (show P_aw _ _ _ 16 [.ref (w.2.2 (tb ((gp - 100) / 10))), P_z ((g : Nat) : Int), P_z ((gp - 100) % 10), P_un] [] _ _ from ?_)
        refine P_aw_op (L' := [.ref (w.2.2 (tb ((gp - 100) / 10))), P_z ((g : Nat) : Int), P_z ((gp - 100) % 10), P_un]) (st' := [P_z ((gp - 100) % 10)]) P_i122_16 rfl (show P_aw _ _ _ 17 [.ref (w.2.2 (tb ((gp - 100) / 10))), P_z ((g : Nat) : Int), P_z ((gp - 100) % 10), P_un] [P_z ((gp - 100) % 10)] _ _ from ?_)
        refine P_aw_op (L' := [.ref (w.2.2 (tb ((gp - 100) / 10))), P_z ((g : Nat) : Int), P_z ((gp - 100) % 10), P_un]) (st' := [.ref (w.2.2 (tb ((gp - 100) / 10))), P_z ((gp - 100) % 10)]) P_i122_17 rfl (show P_aw _ _ _ 18 [.ref (w.2.2 (tb ((gp - 100) / 10))), P_z ((g : Nat) : Int), P_z ((gp - 100) % 10), P_un] [.ref (w.2.2 (tb ((gp - 100) / 10))), P_z ((gp - 100) % 10)] _ _ from ?_)
        have hg8 := (hX ((gp - 100) / 10) (by omega) (by omega)).1.2
        refine P_aw_getv P_i122_18 (hA.2.2 ((gp - 100) / 10) (by omega) (by omega)).2.1.2.1.2 (hA.2.2 ((gp - 100) / 10) (by omega) (by omega)).2.1.2.1.1 rfl rfl ((P_u2_ne (by omega)).trans ((hX ((gp - 100) / 10) (by omega) (by omega)).1.1)) (show P_aw _ _ _ 21 [.ref (w.2.2 (tb ((gp - 100) / 10))), P_z ((g : Nat) : Int), P_z ((gp - 100) % 10), P_un] [P_z (cl ((gp - 100) / 10)), P_z ((gp - 100) % 10)] _ _ from ?_)
        refine P_aw_ict P_i122_21 ⟨by omega, by omega⟩ ⟨by omega, by omega⟩ (P_ci_ltt (by omega)) (show P_aw _ _ _ 26 [.ref (w.2.2 (tb ((gp - 100) / 10))), P_z ((g : Nat) : Int), P_z ((gp - 100) % 10), P_un] [] _ _ from ?_)
        refine P_aw_op (L' := [.ref (w.2.2 (tb ((gp - 100) / 10))), P_z ((g : Nat) : Int), P_z ((gp - 100) % 10), P_un]) (st' := [P_z ((g : Nat) : Int)]) P_i122_26 rfl (show P_aw _ _ _ 27 [.ref (w.2.2 (tb ((gp - 100) / 10))), P_z ((g : Nat) : Int), P_z ((gp - 100) % 10), P_un] [P_z ((g : Nat) : Int)] _ _ from ?_)
        refine P_aw_op (L' := [.ref (w.2.2 (tb ((gp - 100) / 10))), P_z ((g : Nat) : Int), P_z ((gp - 100) % 10), P_un]) (st' := [P_z 3, P_z ((g : Nat) : Int)]) P_i122_27 rfl (show P_aw _ _ _ 28 [.ref (w.2.2 (tb ((gp - 100) / 10))), P_z ((g : Nat) : Int), P_z ((gp - 100) % 10), P_un] [P_z 3, P_z ((g : Nat) : Int)] _ _ from ?_)
        refine P_aw_op (L' := [.ref (w.2.2 (tb ((gp - 100) / 10))), P_z ((g : Nat) : Int), P_z ((gp - 100) % 10), P_un]) (st' := [P_z (((g : Nat) : Int) * 3)]) P_i122_28 P_o_imul (show P_aw _ _ _ 29 [.ref (w.2.2 (tb ((gp - 100) / 10))), P_z ((g : Nat) : Int), P_z ((gp - 100) % 10), P_un] [P_z (((g : Nat) : Int) * 3)] _ _ from ?_)
        refine P_aw_op (L' := [.ref (w.2.2 (tb ((gp - 100) / 10))), P_z ((g : Nat) : Int), P_z ((gp - 100) % 10), P_un]) (st' := [P_z ((gp - 100) % 10), P_z (((g : Nat) : Int) * 3)]) P_i122_29 rfl (show P_aw _ _ _ 30 [.ref (w.2.2 (tb ((gp - 100) / 10))), P_z ((g : Nat) : Int), P_z ((gp - 100) % 10), P_un] [P_z ((gp - 100) % 10), P_z (((g : Nat) : Int) * 3)] _ _ from ?_)
        refine P_aw_op (L' := [.ref (w.2.2 (tb ((gp - 100) / 10))), P_z ((g : Nat) : Int), P_z ((gp - 100) % 10), P_un]) (st' := [P_z ((((g : Nat) : Int) * 3) + ((gp - 100) % 10))]) P_i122_30 P_o_iadd (show P_aw _ _ _ 31 [.ref (w.2.2 (tb ((gp - 100) / 10))), P_z ((g : Nat) : Int), P_z ((gp - 100) % 10), P_un] [P_z ((((g : Nat) : Int) * 3) + ((gp - 100) % 10))] _ _ from ?_)
        refine P_aw_op (L' := [.ref (w.2.2 (tb ((gp - 100) / 10))), P_z ((g : Nat) : Int), P_z ((gp - 100) % 10), P_z ((((g : Nat) : Int) * 3) + ((gp - 100) % 10))]) (st' := []) P_i122_31 rfl (show P_aw _ _ _ 32 [.ref (w.2.2 (tb ((gp - 100) / 10))), P_z ((g : Nat) : Int), P_z ((gp - 100) % 10), P_z ((((g : Nat) : Int) * 3) + ((gp - 100) % 10))] [] _ _ from ?_)
        refine P_aw_op (L' := [.ref (w.2.2 (tb ((gp - 100) / 10))), P_z ((g : Nat) : Int), P_z ((gp - 100) % 10), P_z ((((g : Nat) : Int) * 3) + ((gp - 100) % 10))]) (st' := [P_z ((((g : Nat) : Int) * 3) + ((gp - 100) % 10))]) P_i122_32 rfl (show P_aw _ _ _ 33 [.ref (w.2.2 (tb ((gp - 100) / 10))), P_z ((g : Nat) : Int), P_z ((gp - 100) % 10), P_z ((((g : Nat) : Int) * 3) + ((gp - 100) % 10))] [P_z ((((g : Nat) : Int) * 3) + ((gp - 100) % 10))] _ _ from ?_)
        refine P_aw_izf P_i122_33 ⟨by omega, by omega⟩ (P_ci_ltf (by omega)) (show P_aw _ _ _ 36 [.ref (w.2.2 (tb ((gp - 100) / 10))), P_z ((g : Nat) : Int), P_z ((gp - 100) % 10), P_z ((((g : Nat) : Int) * 3) + ((gp - 100) % 10))] [] _ _ from ?_)
        refine P_aw_op (L' := [.ref (w.2.2 (tb ((gp - 100) / 10))), P_z ((g : Nat) : Int), P_z ((gp - 100) % 10), P_z ((((g : Nat) : Int) * 3) + ((gp - 100) % 10))]) (st' := [P_z ((((g : Nat) : Int) * 3) + ((gp - 100) % 10))]) P_i122_36 rfl (show P_aw _ _ _ 37 [.ref (w.2.2 (tb ((gp - 100) / 10))), P_z ((g : Nat) : Int), P_z ((gp - 100) % 10), P_z ((((g : Nat) : Int) * 3) + ((gp - 100) % 10))] [P_z ((((g : Nat) : Int) * 3) + ((gp - 100) % 10))] _ _ from ?_)
        refine P_aw_op (L' := [.ref (w.2.2 (tb ((gp - 100) / 10))), P_z ((g : Nat) : Int), P_z ((gp - 100) % 10), P_z ((((g : Nat) : Int) * 3) + ((gp - 100) % 10))]) (st' := [.ref (w.2.2 (tb ((gp - 100) / 10))), P_z ((((g : Nat) : Int) * 3) + ((gp - 100) % 10))]) P_i122_37 rfl (show P_aw _ _ _ 38 [.ref (w.2.2 (tb ((gp - 100) / 10))), P_z ((g : Nat) : Int), P_z ((gp - 100) % 10), P_z ((((g : Nat) : Int) * 3) + ((gp - 100) % 10))] [.ref (w.2.2 (tb ((gp - 100) / 10))), P_z ((((g : Nat) : Int) * 3) + ((gp - 100) % 10))] _ _ from ?_)
        refine P_aw_getR P_i122_38 (hA.2.2 ((gp - 100) / 10) (by omega) (by omega)).2.1.2.1.2 (hA.2.2 ((gp - 100) / 10) (by omega) (by omega)).2.1.2.1.1 rfl rfl (show P_aw _ _ _ 41 [.ref (w.2.2 (tb ((gp - 100) / 10))), P_z ((g : Nat) : Int), P_z ((gp - 100) % 10), P_z ((((g : Nat) : Int) * 3) + ((gp - 100) % 10))] [.ref (w.2.2 ((tb ((gp - 100) / 10)) + 1)), P_z ((((g : Nat) : Int) * 3) + ((gp - 100) % 10))] _ _ from ?_)
        refine P_aw_alen P_i122_41 (hA.2.2 ((gp - 100) / 10) (by omega) (by omega)).2.1.2.2.1.2 (hA.2.2 ((gp - 100) / 10) (by omega) (by omega)).2.1.2.2.1.1 (show P_aw _ _ _ 42 [.ref (w.2.2 (tb ((gp - 100) / 10))), P_z ((g : Nat) : Int), P_z ((gp - 100) % 10), P_z ((((g : Nat) : Int) * 3) + ((gp - 100) % 10))] [P_z 42, P_z ((((g : Nat) : Int) * 3) + ((gp - 100) % 10))] _ _ from ?_)
        refine P_aw_icf P_i122_42 ⟨by omega, by omega⟩ ⟨by decide, by decide⟩ (P_ci_gef (by omega)) (show P_aw _ _ _ 45 [.ref (w.2.2 (tb ((gp - 100) / 10))), P_z ((g : Nat) : Int), P_z ((gp - 100) % 10), P_z ((((g : Nat) : Int) * 3) + ((gp - 100) % 10))] [] _ _ from ?_)
        refine P_aw_op (L' := [.ref (w.2.2 (tb ((gp - 100) / 10))), P_z ((g : Nat) : Int), P_z ((gp - 100) % 10), P_z ((((g : Nat) : Int) * 3) + ((gp - 100) % 10))]) (st' := [.ref (w.2.2 (tb ((gp - 100) / 10)))]) P_i122_45 rfl (show P_aw _ _ _ 46 [.ref (w.2.2 (tb ((gp - 100) / 10))), P_z ((g : Nat) : Int), P_z ((gp - 100) % 10), P_z ((((g : Nat) : Int) * 3) + ((gp - 100) % 10))] [.ref (w.2.2 (tb ((gp - 100) / 10)))] _ _ from ?_)
        refine P_aw_getR P_i122_46 (hA.2.2 ((gp - 100) / 10) (by omega) (by omega)).2.1.2.1.2 (hA.2.2 ((gp - 100) / 10) (by omega) (by omega)).2.1.2.1.1 rfl rfl (show P_aw _ _ _ 49 [.ref (w.2.2 (tb ((gp - 100) / 10))), P_z ((g : Nat) : Int), P_z ((gp - 100) % 10), P_z ((((g : Nat) : Int) * 3) + ((gp - 100) % 10))] [.ref (w.2.2 ((tb ((gp - 100) / 10)) + 1))] _ _ from ?_)
        refine P_aw_op (L' := [.ref (w.2.2 (tb ((gp - 100) / 10))), P_z ((g : Nat) : Int), P_z ((gp - 100) % 10), P_z ((((g : Nat) : Int) * 3) + ((gp - 100) % 10))]) (st' := [P_z ((((g : Nat) : Int) * 3) + ((gp - 100) % 10)), .ref (w.2.2 ((tb ((gp - 100) / 10)) + 1))]) P_i122_49 rfl (show P_aw _ _ _ 50 [.ref (w.2.2 (tb ((gp - 100) / 10))), P_z ((g : Nat) : Int), P_z ((gp - 100) % 10), P_z ((((g : Nat) : Int) * 3) + ((gp - 100) % 10))] [P_z ((((g : Nat) : Int) * 3) + ((gp - 100) % 10)), .ref (w.2.2 ((tb ((gp - 100) / 10)) + 1))] _ _ from ?_)
        have hg9 := ((hX ((gp - 100) / 10) (by omega) (by omega)).2 ((gp - 100) % 10) ((g : Nat) : Int) (by omega) (by omega) (by omega) (by omega)).2
        refine P_aw_aldv P_i122_50 (hA.2.2 ((gp - 100) / 10) (by omega) (by omega)).2.1.2.2.1.2 (hA.2.2 ((gp - 100) / 10) (by omega) (by omega)).2.1.2.2.1.1 (by omega) (by omega) (by decide) ((P_u2_ne (by omega)).trans (((hX ((gp - 100) / 10) (by omega) (by omega)).2 ((gp - 100) % 10) ((g : Nat) : Int) (by omega) (by omega) (by omega) (by omega)).1)) (show P_aw _ _ _ 51 [.ref (w.2.2 (tb ((gp - 100) / 10))), P_z ((g : Nat) : Int), P_z ((gp - 100) % 10), P_z ((((g : Nat) : Int) * 3) + ((gp - 100) % 10))] [P_z (V ((gp - 100) / 10) ((gp - 100) % 10) ((g : Nat) : Int))] _ _ from ?_)
        refine P_aw_goto P_i122_51 (show P_aw _ _ _ 55 [.ref (w.2.2 (tb ((gp - 100) / 10))), P_z ((g : Nat) : Int), P_z ((gp - 100) % 10), P_z ((((g : Nat) : Int) * 3) + ((gp - 100) % 10))] [P_z (V ((gp - 100) / 10) ((gp - 100) % 10) ((g : Nat) : Int))] _ _ from ?_)
        refine P_aw_end P_i122_55 rfl rfl (fun _ => rfl) rfl ?_
        show P_aw _ _ _ 31 [.ref (w.2.2 33), P_z ((g : Nat) : Int)] [P_z (V ((gp - 100) / 10) ((gp - 100) % 10) ((g : Nat) : Int))] _ _
        refine P_aw_end P_i49_31 rfl rfl (fun _ => rfl) rfl ?_
        show P_aw _ _ _ 73 [.ref (w.2.2 31), P_z ((g : Nat) : Int)] [P_z (V ((gp - 100) / 10) ((gp - 100) % 10) ((g : Nat) : Int)), P_z (((A_gl σ0 (A_nm V rw gp) g).length : Nat) : Int), .ref (w.2.2 40)] _ _
        refine P_aw_call P_i10_73 rfl rfl (fun _ => rfl) rfl rfl rfl rfl (y2 := 179) (as := [.ref (w.2.2 40), P_z (((A_gl σ0 (A_nm V rw gp) g).length : Nat) : Int), P_z (V ((gp - 100) / 10) ((gp - 100) % 10) ((g : Nat) : Int))]) (r0 := []) (fun _ _ => rfl) (Nat.le_of_ble_eq_true rfl) (by decide) rfl (Nat.le_of_ble_eq_true rfl) (show P_aw _ _ _ 0 [.ref (w.2.2 40), P_z (((A_gl σ0 (A_nm V rw gp) g).length : Nat) : Int), P_z (V ((gp - 100) / 10) ((gp - 100) % 10) ((g : Nat) : Int))] [] _ _ from ?_)
        refine P_aw_op (L' := [.ref (w.2.2 40), P_z (((A_gl σ0 (A_nm V rw gp) g).length : Nat) : Int), P_z (V ((gp - 100) / 10) ((gp - 100) % 10) ((g : Nat) : Int))]) (st' := [P_z (((A_gl σ0 (A_nm V rw gp) g).length : Nat) : Int)]) P_i179_0 rfl (show P_aw _ _ _ 1 [.ref (w.2.2 40), P_z (((A_gl σ0 (A_nm V rw gp) g).length : Nat) : Int), P_z (V ((gp - 100) / 10) ((gp - 100) % 10) ((g : Nat) : Int))] [P_z (((A_gl σ0 (A_nm V rw gp) g).length : Nat) : Int)] _ _ from ?_)
        refine P_aw_izf P_i179_1 ⟨by omega, by omega⟩ (P_ci_ltf (by omega)) (show P_aw _ _ _ 4 [.ref (w.2.2 40), P_z (((A_gl σ0 (A_nm V rw gp) g).length : Nat) : Int), P_z (V ((gp - 100) / 10) ((gp - 100) % 10) ((g : Nat) : Int))] [] _ _ from ?_)
        refine P_aw_op (L' := [.ref (w.2.2 40), P_z (((A_gl σ0 (A_nm V rw gp) g).length : Nat) : Int), P_z (V ((gp - 100) / 10) ((gp - 100) % 10) ((g : Nat) : Int))]) (st' := [P_z (((A_gl σ0 (A_nm V rw gp) g).length : Nat) : Int)]) P_i179_4 rfl (show P_aw _ _ _ 5 [.ref (w.2.2 40), P_z (((A_gl σ0 (A_nm V rw gp) g).length : Nat) : Int), P_z (V ((gp - 100) / 10) ((gp - 100) % 10) ((g : Nat) : Int))] [P_z (((A_gl σ0 (A_nm V rw gp) g).length : Nat) : Int)] _ _ from ?_)
        refine P_aw_op (L' := [.ref (w.2.2 40), P_z (((A_gl σ0 (A_nm V rw gp) g).length : Nat) : Int), P_z (V ((gp - 100) / 10) ((gp - 100) % 10) ((g : Nat) : Int))]) (st' := [.ref (w.2.2 40), P_z (((A_gl σ0 (A_nm V rw gp) g).length : Nat) : Int)]) P_i179_5 rfl (show P_aw _ _ _ 6 [.ref (w.2.2 40), P_z (((A_gl σ0 (A_nm V rw gp) g).length : Nat) : Int), P_z (V ((gp - 100) / 10) ((gp - 100) % 10) ((g : Nat) : Int))] [.ref (w.2.2 40), P_z (((A_gl σ0 (A_nm V rw gp) g).length : Nat) : Int)] _ _ from ?_)
        refine P_aw_alen P_i179_6 (hw.2.1 40 (by decide)) (hw.s rfl) (show P_aw _ _ _ 7 [.ref (w.2.2 40), P_z (((A_gl σ0 (A_nm V rw gp) g).length : Nat) : Int), P_z (V ((gp - 100) / 10) ((gp - 100) % 10) ((g : Nat) : Int))] [P_z 2744, P_z (((A_gl σ0 (A_nm V rw gp) g).length : Nat) : Int)] _ _ from ?_)
        refine P_aw_icf P_i179_7 ⟨by omega, by omega⟩ ⟨by decide, by decide⟩ (P_ci_gef (by omega)) (show P_aw _ _ _ 10 [.ref (w.2.2 40), P_z (((A_gl σ0 (A_nm V rw gp) g).length : Nat) : Int), P_z (V ((gp - 100) / 10) ((gp - 100) % 10) ((g : Nat) : Int))] [] _ _ from ?_)
        refine P_aw_op (L' := [.ref (w.2.2 40), P_z (((A_gl σ0 (A_nm V rw gp) g).length : Nat) : Int), P_z (V ((gp - 100) / 10) ((gp - 100) % 10) ((g : Nat) : Int))]) (st' := [.ref (w.2.2 40)]) P_i179_10 rfl (show P_aw _ _ _ 11 [.ref (w.2.2 40), P_z (((A_gl σ0 (A_nm V rw gp) g).length : Nat) : Int), P_z (V ((gp - 100) / 10) ((gp - 100) % 10) ((g : Nat) : Int))] [.ref (w.2.2 40)] _ _ from ?_)
        refine P_aw_op (L' := [.ref (w.2.2 40), P_z (((A_gl σ0 (A_nm V rw gp) g).length : Nat) : Int), P_z (V ((gp - 100) / 10) ((gp - 100) % 10) ((g : Nat) : Int))]) (st' := [P_z (((A_gl σ0 (A_nm V rw gp) g).length : Nat) : Int), .ref (w.2.2 40)]) P_i179_11 rfl (show P_aw _ _ _ 12 [.ref (w.2.2 40), P_z (((A_gl σ0 (A_nm V rw gp) g).length : Nat) : Int), P_z (V ((gp - 100) / 10) ((gp - 100) % 10) ((g : Nat) : Int))] [P_z (((A_gl σ0 (A_nm V rw gp) g).length : Nat) : Int), .ref (w.2.2 40)] _ _ from ?_)
        refine P_aw_op (L' := [.ref (w.2.2 40), P_z (((A_gl σ0 (A_nm V rw gp) g).length : Nat) : Int), P_z (V ((gp - 100) / 10) ((gp - 100) % 10) ((g : Nat) : Int))]) (st' := [P_z (V ((gp - 100) / 10) ((gp - 100) % 10) ((g : Nat) : Int)), P_z (((A_gl σ0 (A_nm V rw gp) g).length : Nat) : Int), .ref (w.2.2 40)]) P_i179_12 rfl (show P_aw _ _ _ 13 [.ref (w.2.2 40), P_z (((A_gl σ0 (A_nm V rw gp) g).length : Nat) : Int), P_z (V ((gp - 100) / 10) ((gp - 100) % 10) ((g : Nat) : Int))] [P_z (V ((gp - 100) / 10) ((gp - 100) % 10) ((g : Nat) : Int)), P_z (((A_gl σ0 (A_nm V rw gp) g).length : Nat) : Int), .ref (w.2.2 40)] _ _ from ?_)
        refine P_aw_ast P_i179_13 (hw.2.1 40 (by decide)) (hw.s rfl) (by omega) (by omega) (by decide) (show P_aw _ _ _ 14 [.ref (w.2.2 40), P_z (((A_gl σ0 (A_nm V rw gp) g).length : Nat) : Int), P_z (V ((gp - 100) / 10) ((gp - 100) % 10) ((g : Nat) : Int))] [] _ _ from ?_)
        refine P_aw_end P_i179_14 rfl rfl (fun _ => rfl) rfl ?_
        show P_aw _ _ _ 76 [.ref (w.2.2 31), P_z ((g : Nat) : Int)] [] _ _
        refine P_aw_op (L' := [.ref (w.2.2 31), P_z ((g : Nat) : Int)]) (st' := [.ref (w.2.2 31)]) P_i10_76 rfl (show P_aw _ _ _ 77 [.ref (w.2.2 31), P_z ((g : Nat) : Int)] [.ref (w.2.2 31)] _ _ from ?_)
        refine P_aw_op (L' := [.ref (w.2.2 31), P_z ((g : Nat) : Int)]) (st' := [.ref (w.2.2 31), .ref (w.2.2 31)]) P_i10_77 rfl (show P_aw _ _ _ 78 [.ref (w.2.2 31), P_z ((g : Nat) : Int)] [.ref (w.2.2 31), .ref (w.2.2 31)] _ _ from ?_)
        refine P_aw_getv P_i10_78 (hw.2.1 31 (by decide)) (hw.s rfl) rfl rfl ((P_u2_ne (by omega)).trans ((P_u2_ne (by omega)).trans (hKN.1))) (show P_aw _ _ _ 81 [.ref (w.2.2 31), P_z ((g : Nat) : Int)] [P_z (((A_gl σ0 (A_nm V rw gp) g).length : Nat) : Int), .ref (w.2.2 31)] _ _ from ?_)
        refine P_aw_op (L' := [.ref (w.2.2 31), P_z ((g : Nat) : Int)]) (st' := [P_z 1, P_z (((A_gl σ0 (A_nm V rw gp) g).length : Nat) : Int), .ref (w.2.2 31)]) P_i10_81 rfl (show P_aw _ _ _ 82 [.ref (w.2.2 31), P_z ((g : Nat) : Int)] [P_z 1, P_z (((A_gl σ0 (A_nm V rw gp) g).length : Nat) : Int), .ref (w.2.2 31)] _ _ from ?_)
        refine P_aw_op (L' := [.ref (w.2.2 31), P_z ((g : Nat) : Int)]) (st' := [P_z ((((A_gl σ0 (A_nm V rw gp) g).length : Nat) : Int) + 1), .ref (w.2.2 31)]) P_i10_82 P_o_iadd (show P_aw _ _ _ 83 [.ref (w.2.2 31), P_z ((g : Nat) : Int)] [P_z ((((A_gl σ0 (A_nm V rw gp) g).length : Nat) : Int) + 1), .ref (w.2.2 31)] _ _ from ?_)
        refine P_aw_put P_i10_83 (hw.2.1 31 (by decide)) (hw.s rfl) rfl rfl rfl (show P_aw _ _ _ 86 [.ref (w.2.2 31), P_z ((g : Nat) : Int)] [] _ _ from ?_)
        refine P_aw_op (L' := [.ref (w.2.2 31), P_z (((g : Nat) : Int) + 1)]) (st' := []) P_i10_86 (P_o_iinc rfl) (show P_aw _ _ _ 89 [.ref (w.2.2 31), P_z (((g : Nat) : Int) + 1)] [] _ _ from ?_)
        refine P_aw_goto P_i10_89 (show P_aw _ _ _ 28 [.ref (w.2.2 31), P_z (((g : Nat) : Int) + 1)] [] _ _ from ?_)
        have hnm : A_nm V rw gp ((g : Nat) : Int) = (V ((gp - 100) / 10) ((gp - 100) % 10) ((g : Nat) : Int)) := (by unfold A_nm; first | rw [if_pos (by omega)] | rw [if_neg (by omega)]); have e : A_gl σ0 (A_nm V rw gp) (g + 1) = A_gl σ0 (A_nm V rw gp) g ++ [(A_nm V rw gp ((g : Nat) : Int), ((g : Nat) : Int))] := (by simp only [A_gl]; rw [if_pos (by omega)]); have hadd := A_KN_add (y := (A_nm V rw gp ((g : Nat) : Int), ((g : Nat) : Int))) rfl hKN; rw [← e, hnm] at hadd; exact ih _ (g + 1) (fun a b h h2 h3 => (P_u2_ne (by omega)).trans ((P_u2_ne (by omega)).trans ((P_u2_ne (by omega)).trans (hky a b h h2 h3)))) (by omega) hadd q
      · refine P_aw_ict P_i122_9 ⟨by omega, by omega⟩ ⟨by omega, by omega⟩ (P_ci_get (by omega)) (show P_aw _ _ _ 24 [.ref (w.2.2 (tb ((gp - 100) / 10))), P_z ((g : Nat) : Int), P_z ((gp - 100) % 10), P_un] [] _ _ from ?_)
        refine P_aw_op (L' := [.ref (w.2.2 (tb ((gp - 100) / 10))), P_z ((g : Nat) : Int), P_z ((gp - 100) % 10), P_un]) (st' := [P_z 0]) P_i122_24 rfl (show P_aw _ _ _ 25 [.ref (w.2.2 (tb ((gp - 100) / 10))), P_z ((g : Nat) : Int), P_z ((gp - 100) % 10), P_un] [P_z 0] _ _ from ?_)
        refine P_aw_end P_i122_25 rfl rfl (fun _ => rfl) rfl ?_
        show P_aw _ _ _ 31 [.ref (w.2.2 33), P_z ((g : Nat) : Int)] [P_z 0] _ _
        refine P_aw_end P_i49_31 rfl rfl (fun _ => rfl) rfl ?_
        show P_aw _ _ _ 73 [.ref (w.2.2 31), P_z ((g : Nat) : Int)] [P_z 0, P_z (((A_gl σ0 (A_nm V rw gp) g).length : Nat) : Int), .ref (w.2.2 40)] _ _
        refine P_aw_call P_i10_73 rfl rfl (fun _ => rfl) rfl rfl rfl rfl (y2 := 179) (as := [.ref (w.2.2 40), P_z (((A_gl σ0 (A_nm V rw gp) g).length : Nat) : Int), P_z 0]) (r0 := []) (fun _ _ => rfl) (Nat.le_of_ble_eq_true rfl) (by decide) rfl (Nat.le_of_ble_eq_true rfl) (show P_aw _ _ _ 0 [.ref (w.2.2 40), P_z (((A_gl σ0 (A_nm V rw gp) g).length : Nat) : Int), P_z 0] [] _ _ from ?_)
        refine P_aw_op (L' := [.ref (w.2.2 40), P_z (((A_gl σ0 (A_nm V rw gp) g).length : Nat) : Int), P_z 0]) (st' := [P_z (((A_gl σ0 (A_nm V rw gp) g).length : Nat) : Int)]) P_i179_0 rfl (show P_aw _ _ _ 1 [.ref (w.2.2 40), P_z (((A_gl σ0 (A_nm V rw gp) g).length : Nat) : Int), P_z 0] [P_z (((A_gl σ0 (A_nm V rw gp) g).length : Nat) : Int)] _ _ from ?_)
        refine P_aw_izf P_i179_1 ⟨by omega, by omega⟩ (P_ci_ltf (by omega)) (show P_aw _ _ _ 4 [.ref (w.2.2 40), P_z (((A_gl σ0 (A_nm V rw gp) g).length : Nat) : Int), P_z 0] [] _ _ from ?_)
        refine P_aw_op (L' := [.ref (w.2.2 40), P_z (((A_gl σ0 (A_nm V rw gp) g).length : Nat) : Int), P_z 0]) (st' := [P_z (((A_gl σ0 (A_nm V rw gp) g).length : Nat) : Int)]) P_i179_4 rfl (show P_aw _ _ _ 5 [.ref (w.2.2 40), P_z (((A_gl σ0 (A_nm V rw gp) g).length : Nat) : Int), P_z 0] [P_z (((A_gl σ0 (A_nm V rw gp) g).length : Nat) : Int)] _ _ from ?_)
        refine P_aw_op (L' := [.ref (w.2.2 40), P_z (((A_gl σ0 (A_nm V rw gp) g).length : Nat) : Int), P_z 0]) (st' := [.ref (w.2.2 40), P_z (((A_gl σ0 (A_nm V rw gp) g).length : Nat) : Int)]) P_i179_5 rfl (show P_aw _ _ _ 6 [.ref (w.2.2 40), P_z (((A_gl σ0 (A_nm V rw gp) g).length : Nat) : Int), P_z 0] [.ref (w.2.2 40), P_z (((A_gl σ0 (A_nm V rw gp) g).length : Nat) : Int)] _ _ from ?_)
        refine P_aw_alen P_i179_6 (hw.2.1 40 (by decide)) (hw.s rfl) (show P_aw _ _ _ 7 [.ref (w.2.2 40), P_z (((A_gl σ0 (A_nm V rw gp) g).length : Nat) : Int), P_z 0] [P_z 2744, P_z (((A_gl σ0 (A_nm V rw gp) g).length : Nat) : Int)] _ _ from ?_)
        refine P_aw_icf P_i179_7 ⟨by omega, by omega⟩ ⟨by decide, by decide⟩ (P_ci_gef (by omega)) (show P_aw _ _ _ 10 [.ref (w.2.2 40), P_z (((A_gl σ0 (A_nm V rw gp) g).length : Nat) : Int), P_z 0] [] _ _ from ?_)
        refine P_aw_op (L' := [.ref (w.2.2 40), P_z (((A_gl σ0 (A_nm V rw gp) g).length : Nat) : Int), P_z 0]) (st' := [.ref (w.2.2 40)]) P_i179_10 rfl (show P_aw _ _ _ 11 [.ref (w.2.2 40), P_z (((A_gl σ0 (A_nm V rw gp) g).length : Nat) : Int), P_z 0] [.ref (w.2.2 40)] _ _ from ?_)
        refine P_aw_op (L' := [.ref (w.2.2 40), P_z (((A_gl σ0 (A_nm V rw gp) g).length : Nat) : Int), P_z 0]) (st' := [P_z (((A_gl σ0 (A_nm V rw gp) g).length : Nat) : Int), .ref (w.2.2 40)]) P_i179_11 rfl (show P_aw _ _ _ 12 [.ref (w.2.2 40), P_z (((A_gl σ0 (A_nm V rw gp) g).length : Nat) : Int), P_z 0] [P_z (((A_gl σ0 (A_nm V rw gp) g).length : Nat) : Int), .ref (w.2.2 40)] _ _ from ?_)
        refine P_aw_op (L' := [.ref (w.2.2 40), P_z (((A_gl σ0 (A_nm V rw gp) g).length : Nat) : Int), P_z 0]) (st' := [P_z 0, P_z (((A_gl σ0 (A_nm V rw gp) g).length : Nat) : Int), .ref (w.2.2 40)]) P_i179_12 rfl (show P_aw _ _ _ 13 [.ref (w.2.2 40), P_z (((A_gl σ0 (A_nm V rw gp) g).length : Nat) : Int), P_z 0] [P_z 0, P_z (((A_gl σ0 (A_nm V rw gp) g).length : Nat) : Int), .ref (w.2.2 40)] _ _ from ?_)
        refine P_aw_ast P_i179_13 (hw.2.1 40 (by decide)) (hw.s rfl) (by omega) (by omega) (by decide) (show P_aw _ _ _ 14 [.ref (w.2.2 40), P_z (((A_gl σ0 (A_nm V rw gp) g).length : Nat) : Int), P_z 0] [] _ _ from ?_)
        refine P_aw_end P_i179_14 rfl rfl (fun _ => rfl) rfl ?_
        show P_aw _ _ _ 76 [.ref (w.2.2 31), P_z ((g : Nat) : Int)] [] _ _
        refine P_aw_op (L' := [.ref (w.2.2 31), P_z ((g : Nat) : Int)]) (st' := [.ref (w.2.2 31)]) P_i10_76 rfl (show P_aw _ _ _ 77 [.ref (w.2.2 31), P_z ((g : Nat) : Int)] [.ref (w.2.2 31)] _ _ from ?_)
        refine P_aw_op (L' := [.ref (w.2.2 31), P_z ((g : Nat) : Int)]) (st' := [.ref (w.2.2 31), .ref (w.2.2 31)]) P_i10_77 rfl (show P_aw _ _ _ 78 [.ref (w.2.2 31), P_z ((g : Nat) : Int)] [.ref (w.2.2 31), .ref (w.2.2 31)] _ _ from ?_)
        refine P_aw_getv P_i10_78 (hw.2.1 31 (by decide)) (hw.s rfl) rfl rfl ((P_u2_ne (by omega)).trans ((P_u2_ne (by omega)).trans (hKN.1))) (show P_aw _ _ _ 81 [.ref (w.2.2 31), P_z ((g : Nat) : Int)] [P_z (((A_gl σ0 (A_nm V rw gp) g).length : Nat) : Int), .ref (w.2.2 31)] _ _ from ?_)
        refine P_aw_op (L' := [.ref (w.2.2 31), P_z ((g : Nat) : Int)]) (st' := [P_z 1, P_z (((A_gl σ0 (A_nm V rw gp) g).length : Nat) : Int), .ref (w.2.2 31)]) P_i10_81 rfl (show P_aw _ _ _ 82 [.ref (w.2.2 31), P_z ((g : Nat) : Int)] [P_z 1, P_z (((A_gl σ0 (A_nm V rw gp) g).length : Nat) : Int), .ref (w.2.2 31)] _ _ from ?_)
        refine P_aw_op (L' := [.ref (w.2.2 31), P_z ((g : Nat) : Int)]) (st' := [P_z ((((A_gl σ0 (A_nm V rw gp) g).length : Nat) : Int) + 1), .ref (w.2.2 31)]) P_i10_82 P_o_iadd (show P_aw _ _ _ 83 [.ref (w.2.2 31), P_z ((g : Nat) : Int)] [P_z ((((A_gl σ0 (A_nm V rw gp) g).length : Nat) : Int) + 1), .ref (w.2.2 31)] _ _ from ?_)
        refine P_aw_put P_i10_83 (hw.2.1 31 (by decide)) (hw.s rfl) rfl rfl rfl (show P_aw _ _ _ 86 [.ref (w.2.2 31), P_z ((g : Nat) : Int)] [] _ _ from ?_)
        refine P_aw_op (L' := [.ref (w.2.2 31), P_z (((g : Nat) : Int) + 1)]) (st' := []) P_i10_86 (P_o_iinc rfl) (show P_aw _ _ _ 89 [.ref (w.2.2 31), P_z (((g : Nat) : Int) + 1)] [] _ _ from ?_)
        refine P_aw_goto P_i10_89 (show P_aw _ _ _ 28 [.ref (w.2.2 31), P_z (((g : Nat) : Int) + 1)] [] _ _ from ?_)
        have hnm : A_nm V rw gp ((g : Nat) : Int) = 0 := (by unfold A_nm; first | rw [if_pos (by omega)] | rw [if_neg (by omega)]); have e : A_gl σ0 (A_nm V rw gp) (g + 1) = A_gl σ0 (A_nm V rw gp) g ++ [(A_nm V rw gp ((g : Nat) : Int), ((g : Nat) : Int))] := (by simp only [A_gl]; rw [if_pos (by omega)]); have hadd := A_KN_add (y := (A_nm V rw gp ((g : Nat) : Int), ((g : Nat) : Int))) rfl hKN; rw [← e, hnm] at hadd; exact ih _ (g + 1) (fun a b h h2 h3 => (P_u2_ne (by omega)).trans ((P_u2_ne (by omega)).trans ((P_u2_ne (by omega)).trans (hky a b h h2 h3)))) (by omega) hadd q
    · refine P_aw_izt P_i10_42 ⟨by omega, by omega⟩ (P_ci_let (by omega)) (show P_aw _ _ _ 86 [.ref (w.2.2 31), P_z ((g : Nat) : Int)] [] _ _ from ?_)
      refine P_aw_op (L' := [.ref (w.2.2 31), P_z (((g : Nat) : Int) + 1)]) (st' := []) P_i10_86 (P_o_iinc rfl) (show P_aw _ _ _ 89 [.ref (w.2.2 31), P_z (((g : Nat) : Int) + 1)] [] _ _ from ?_)
      refine P_aw_goto P_i10_89 (show P_aw _ _ _ 28 [.ref (w.2.2 31), P_z (((g : Nat) : Int) + 1)] [] _ _ from ?_)
      have e : A_gl σ0 (A_nm V rw gp) (g + 1) = A_gl σ0 (A_nm V rw gp) g := (by simp only [A_gl]; rw [if_neg (by omega)]; simp); exact ih σ (g + 1) hky (by omega) (by rw [e]; exact hKN) q

theorem s_lg {w : P_Lw} (hw : P_Cw w) {d : Nat} {Q : P_R → P_A → Prop} {σ : P_A} {ns : Int} {tb : Int → Nat} {rw : Int → Int} {vr : Int → Int → Int} {cl : Int → Int} {V : Int → Int → Int → Int} {it : Int} {ki ci : Int → Int} {gp oi lm : Int} (hA : A_V w σ ns tb rw vr) (hX : A_X σ ns tb rw cl V) (hF : A_F σ ns cl it ki ci gp oi lm) (hgp : gp ≠ -1) (hG : ∀ j, j < 14 → 0 ≤ σ 34 j ∧ σ 34 j ≤ 1000000000) (hs0 : σ 31 14 = 0) (hnr : ∀ g : Int, 0 ≤ g → -999 ≤ A_nm V rw gp g ∧ A_nm V rw gp g ≤ 999) (q : ∀ (σ' : P_A) (sl : List A_kf), sl.Perm (A_gl σ (A_nm V rw gp) 14) → A_inc2 sl → (∀ a b, ¬ (a = 37 ∨ a = 40 ∨ a = 41) → ¬ (a = 31 ∧ b = 14) → σ' a b = σ a b) → σ' 31 14 = ((sl.length : Nat) : Int) → (∀ j, j < sl.length → σ' 37 j = (A_at sl j).2) → Q (.inl none) σ') : P_aw w (d + 6) 10 0 [.ref (w.2.2 31), P_un] [] σ Q := by
  have hgpr := A_gp_rg hF.2.2.2.2.1
  refine P_aw_op (L' := [.ref (w.2.2 31), P_un]) (st' := [.ref (w.2.2 31)]) P_i10_0 rfl (show P_aw _ _ _ 1 [.ref (w.2.2 31), P_un] [.ref (w.2.2 31)] _ _ from ?_)
  refine P_aw_getR P_i10_1 (hw.2.1 31 (by decide)) (hw.s rfl) rfl rfl (show P_aw _ _ _ 4 [.ref (w.2.2 31), P_un] [.ref (w.2.2 6)] _ _ from ?_)
  refine P_aw_call P_i10_4 rfl rfl (fun _ => rfl) rfl rfl rfl rfl (y2 := 31) (as := [.ref (w.2.2 6)]) (r0 := []) (P_inv_v (hw.2.1 6 (by decide)) (hw.s rfl) rfl rfl) (Nat.le_of_ble_eq_true rfl) (by decide) rfl (Nat.le_of_ble_eq_true rfl) (show P_aw _ _ _ 0 [.ref (w.2.2 6)] [] _ _ from ?_)
  refine P_aw_op (L' := [.ref (w.2.2 6)]) (st' := [.ref (w.2.2 6)]) P_i31_0 rfl (show P_aw _ _ _ 1 [.ref (w.2.2 6)] [.ref (w.2.2 6)] _ _ from ?_)
  have hg1 := A_gp_rg hF.2.2.2.2.1
  refine P_aw_getv P_i31_1 (hw.2.1 6 (by decide)) (hw.s rfl) rfl rfl (hF.2.2.2.1) (show P_aw _ _ _ 4 [.ref (w.2.2 6)] [P_z gp] _ _ from ?_)
  refine P_aw_end P_i31_4 rfl rfl (fun _ => rfl) rfl ?_
  show P_aw _ _ _ 7 [.ref (w.2.2 31), P_un] [P_z gp] _ _
  refine P_aw_op (L' := [.ref (w.2.2 31), P_un]) (st' := [P_z (-1), P_z gp]) P_i10_7 rfl (show P_aw _ _ _ 8 [.ref (w.2.2 31), P_un] [P_z (-1), P_z gp] _ _ from ?_)
  refine P_aw_ict P_i10_8 ⟨by omega, by omega⟩ ⟨by decide, by decide⟩ (P_ci_net (by omega)) (show P_aw _ _ _ 26 [.ref (w.2.2 31), P_un] [] _ _ from ?_)
  refine P_aw_op (L' := [.ref (w.2.2 31), P_un]) (st' := [P_z 0]) P_i10_26 rfl (show P_aw _ _ _ 27 [.ref (w.2.2 31), P_un] [P_z 0] _ _ from ?_)
  refine P_aw_op (L' := [.ref (w.2.2 31), P_z 0]) (st' := []) P_i10_27 rfl (show P_aw _ _ _ 28 [.ref (w.2.2 31), P_z 0] [] _ _ from ?_)
  refine s_lgl hw hA hX hF hgp hG 14 σ 0 (fun _ _ _ _ _ => rfl) (by omega) ⟨hs0, fun j hj => absurd hj (Nat.not_lt_zero _)⟩ (fun σ2 r1 r2 => ?_)
  refine P_aw_op (L' := [.ref (w.2.2 31), P_z 14]) (st' := [.ref (w.2.2 31)]) P_i10_92 rfl (show P_aw _ _ _ 93 [.ref (w.2.2 31), P_z 14] [.ref (w.2.2 31)] _ _ from ?_)
  have hlen := A_gl_len (σ := σ) (nm := A_nm V rw gp) 14
  have hKF : A_KF σ2 (A_gl σ (A_nm V rw gp) 14) := ⟨r2.1, by omega, r2.2, fun y hy => by obtain ⟨g, g1, rfl, -⟩ := A_gl_mem 14 hy; have := hnr ((g : Nat) : Int) (by omega); exact ⟨by show -1000000000 < A_nm V rw gp ((g : Nat) : Int); omega, by show A_nm V rw gp ((g : Nat) : Int) < 1000000000; omega⟩⟩
  refine P_aw_call P_i10_93 rfl rfl (fun _ => rfl) rfl rfl rfl rfl (y2 := 12) (as := [.ref (w.2.2 31)]) (r0 := []) (P_inv_v (hw.2.1 31 (by decide)) (hw.s rfl) rfl rfl) (Nat.le_of_ble_eq_true rfl) (by decide) rfl (Nat.le_of_ble_eq_true rfl) (s_so (F := (A_gl σ (A_nm V rw gp) 14).map Prod.fst) hw (fun y hy => List.mem_map.mpr ⟨y, hy, rfl⟩) (by rw [List.length_map]; exact hlen) hKF (fun σ3 sl u1 u2 u3 u4 => ?_))
  show P_aw _ _ _ 96 [.ref (w.2.2 31), P_z 14] [] _ _
  refine P_aw_end P_i10_96 rfl rfl (fun _ => rfl) rfl ?_
  exact q σ3 sl u1 u2 (fun a b h h2 => (u3 a b (by omega) (by omega)).trans (r1 a b (by omega) (by omega) h2)) ((u3 31 14 (by omega) (by omega)).trans (r2.1.trans (by rw [u1.length_eq]))) u4

theorem s_lg0 {w : P_Lw} (hw : P_Cw w) {d : Nat} {Q : P_R → P_A → Prop} {σ : P_A} {ns : Int} {cl : Int → Int} {it : Int} {ki ci : Int → Int} {oi lm : Int} (hF : A_F σ ns cl it ki ci (-1) oi lm) (q : ∀ σ' : P_A, (∀ a b, ¬ (a = 37 ∧ b = 0) → ¬ (a = 31 ∧ b = 14) → σ' a b = σ a b) → σ' 37 0 = 0 → σ' 31 14 = 1 → Q (.inl none) σ') : P_aw w (d + 6) 10 0 [.ref (w.2.2 31), P_un] [] σ Q := by
  refine P_aw_op (L' := [.ref (w.2.2 31), P_un]) (st' := [.ref (w.2.2 31)]) P_i10_0 rfl (show P_aw _ _ _ 1 [.ref (w.2.2 31), P_un] [.ref (w.2.2 31)] _ _ from ?_)
  refine P_aw_getR P_i10_1 (hw.2.1 31 (by decide)) (hw.s rfl) rfl rfl (show P_aw _ _ _ 4 [.ref (w.2.2 31), P_un] [.ref (w.2.2 6)] _ _ from ?_)
  refine P_aw_call P_i10_4 rfl rfl (fun _ => rfl) rfl rfl rfl rfl (y2 := 31) (as := [.ref (w.2.2 6)]) (r0 := []) (P_inv_v (hw.2.1 6 (by decide)) (hw.s rfl) rfl rfl) (Nat.le_of_ble_eq_true rfl) (by decide) rfl (Nat.le_of_ble_eq_true rfl) (show P_aw _ _ _ 0 [.ref (w.2.2 6)] [] _ _ from ?_)
  refine P_aw_op (L' := [.ref (w.2.2 6)]) (st' := [.ref (w.2.2 6)]) P_i31_0 rfl (show P_aw _ _ _ 1 [.ref (w.2.2 6)] [.ref (w.2.2 6)] _ _ from ?_)
  refine P_aw_getv P_i31_1 (hw.2.1 6 (by decide)) (hw.s rfl) rfl rfl (hF.2.2.2.1) (show P_aw _ _ _ 4 [.ref (w.2.2 6)] [P_z (-1)] _ _ from ?_)
  refine P_aw_end P_i31_4 rfl rfl (fun _ => rfl) rfl ?_
  show P_aw _ _ _ 7 [.ref (w.2.2 31), P_un] [P_z (-1)] _ _
  refine P_aw_op (L' := [.ref (w.2.2 31), P_un]) (st' := [P_z (-1), P_z (-1)]) P_i10_7 rfl (show P_aw _ _ _ 8 [.ref (w.2.2 31), P_un] [P_z (-1), P_z (-1)] _ _ from ?_)
  refine P_aw_icf P_i10_8 ⟨by decide, by decide⟩ ⟨by decide, by decide⟩ (P_ci_nef (by omega)) (show P_aw _ _ _ 11 [.ref (w.2.2 31), P_un] [] _ _ from ?_)
  refine P_aw_op (L' := [.ref (w.2.2 31), P_un]) (st' := [.ref (w.2.2 31)]) P_i10_11 rfl (show P_aw _ _ _ 12 [.ref (w.2.2 31), P_un] [.ref (w.2.2 31)] _ _ from ?_)
  refine P_aw_getR P_i10_12 (hw.2.1 31 (by decide)) (hw.s rfl) rfl rfl (show P_aw _ _ _ 15 [.ref (w.2.2 31), P_un] [.ref (w.2.2 37)] _ _ from ?_)
  refine P_aw_op (L' := [.ref (w.2.2 31), P_un]) (st' := [P_z 0, .ref (w.2.2 37)]) P_i10_15 rfl (show P_aw _ _ _ 16 [.ref (w.2.2 31), P_un] [P_z 0, .ref (w.2.2 37)] _ _ from ?_)
  refine P_aw_op (L' := [.ref (w.2.2 31), P_un]) (st' := [P_z 0, P_z 0, .ref (w.2.2 37)]) P_i10_16 rfl (show P_aw _ _ _ 17 [.ref (w.2.2 31), P_un] [P_z 0, P_z 0, .ref (w.2.2 37)] _ _ from ?_)
  refine P_aw_call P_i10_17 rfl rfl (fun _ => rfl) rfl rfl rfl rfl (y2 := 179) (as := [.ref (w.2.2 37), P_z 0, P_z 0]) (r0 := []) (fun _ _ => rfl) (Nat.le_of_ble_eq_true rfl) (by decide) rfl (Nat.le_of_ble_eq_true rfl) (show P_aw _ _ _ 0 [.ref (w.2.2 37), P_z 0, P_z 0] [] _ _ from ?_)
  refine P_aw_op (L' := [.ref (w.2.2 37), P_z 0, P_z 0]) (st' := [P_z 0]) P_i179_0 rfl (show P_aw _ _ _ 1 [.ref (w.2.2 37), P_z 0, P_z 0] [P_z 0] _ _ from ?_)
  refine P_aw_izf P_i179_1 ⟨by decide, by decide⟩ (P_ci_ltf (by omega)) (show P_aw _ _ _ 4 [.ref (w.2.2 37), P_z 0, P_z 0] [] _ _ from ?_)
  refine P_aw_op (L' := [.ref (w.2.2 37), P_z 0, P_z 0]) (st' := [P_z 0]) P_i179_4 rfl (show P_aw _ _ _ 5 [.ref (w.2.2 37), P_z 0, P_z 0] [P_z 0] _ _ from ?_)
  refine P_aw_op (L' := [.ref (w.2.2 37), P_z 0, P_z 0]) (st' := [.ref (w.2.2 37), P_z 0]) P_i179_5 rfl (show P_aw _ _ _ 6 [.ref (w.2.2 37), P_z 0, P_z 0] [.ref (w.2.2 37), P_z 0] _ _ from ?_)
  refine P_aw_alen P_i179_6 (hw.2.1 37 (by decide)) (hw.s rfl) (show P_aw _ _ _ 7 [.ref (w.2.2 37), P_z 0, P_z 0] [P_z 2744, P_z 0] _ _ from ?_)
  refine P_aw_icf P_i179_7 ⟨by decide, by decide⟩ ⟨by decide, by decide⟩ (P_ci_gef (by omega)) (show P_aw _ _ _ 10 [.ref (w.2.2 37), P_z 0, P_z 0] [] _ _ from ?_)
  refine P_aw_op (L' := [.ref (w.2.2 37), P_z 0, P_z 0]) (st' := [.ref (w.2.2 37)]) P_i179_10 rfl (show P_aw _ _ _ 11 [.ref (w.2.2 37), P_z 0, P_z 0] [.ref (w.2.2 37)] _ _ from ?_)
  refine P_aw_op (L' := [.ref (w.2.2 37), P_z 0, P_z 0]) (st' := [P_z 0, .ref (w.2.2 37)]) P_i179_11 rfl (show P_aw _ _ _ 12 [.ref (w.2.2 37), P_z 0, P_z 0] [P_z 0, .ref (w.2.2 37)] _ _ from ?_)
  refine P_aw_op (L' := [.ref (w.2.2 37), P_z 0, P_z 0]) (st' := [P_z 0, P_z 0, .ref (w.2.2 37)]) P_i179_12 rfl (show P_aw _ _ _ 13 [.ref (w.2.2 37), P_z 0, P_z 0] [P_z 0, P_z 0, .ref (w.2.2 37)] _ _ from ?_)
  refine P_aw_ast P_i179_13 (hw.2.1 37 (by decide)) (hw.s rfl) (by omega) (by omega) (by decide) (show P_aw _ _ _ 14 [.ref (w.2.2 37), P_z 0, P_z 0] [] _ _ from ?_)
  refine P_aw_end P_i179_14 rfl rfl (fun _ => rfl) rfl ?_
  show P_aw _ _ _ 20 [.ref (w.2.2 31), P_un] [] _ _
  refine P_aw_op (L' := [.ref (w.2.2 31), P_un]) (st' := [.ref (w.2.2 31)]) P_i10_20 rfl (show P_aw _ _ _ 21 [.ref (w.2.2 31), P_un] [.ref (w.2.2 31)] _ _ from ?_)
  refine P_aw_op (L' := [.ref (w.2.2 31), P_un]) (st' := [P_z 1, .ref (w.2.2 31)]) P_i10_21 rfl (show P_aw _ _ _ 22 [.ref (w.2.2 31), P_un] [P_z 1, .ref (w.2.2 31)] _ _ from ?_)
  refine P_aw_put P_i10_22 (hw.2.1 31 (by decide)) (hw.s rfl) rfl rfl rfl (show P_aw _ _ _ 25 [.ref (w.2.2 31), P_un] [] _ _ from ?_)
  refine P_aw_end P_i10_25 rfl rfl (fun _ => rfl) rfl ?_
  exact q _ (fun a b h h2 => (P_u2_ne h2).trans (P_u2_ne h)) ((P_u2_ne (by omega)).trans P_u2_at) P_u2_at
