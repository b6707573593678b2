/-! the class, written by wip/c1.py: 72.list -/
/-- so many results, each with a key -/
def A_mk (f : Int → Int) (d : Int → Int) (n : Nat) : List A_kf := (List.range n).map (fun j : Nat => (f (j : Int), d (j : Int)))
theorem A_mk_len {f d : Int → Int} {n : Nat} : (A_mk f d n).length = n := by simp [A_mk]
theorem A_mk_at {f d : Int → Int} {n j : Nat} (h : j < n) : A_at (A_mk f d n) j = (f (j : Int), d (j : Int)) := by
  unfold A_at A_mk
  rw [List.getD_eq_getElem?_getD, List.getElem?_map, List.getElem?_range h]
  rfl
theorem A_mk_mem {f d : Int → Int} {n : Nat} {y : A_kf} (h : y ∈ A_mk f d n) : ∃ j : Nat, j < n ∧ y = (f (j : Int), d (j : Int)) := by
  unfold A_mk at h
  obtain ⟨j, hj, e⟩ := List.mem_map.mp h
  exact ⟨j, List.mem_range.mp hj, e.symm⟩
/-- only the keys have changed -/
def A_ky (σ σ' : P_A) : Prop := ∀ a b, a ≠ 40 → σ' a b = σ a b
theorem A_av_cg {σ σ' : P_A} {V : Int → Int → Int → Int} {rw ki ci : Int → Int} {gth p j : Int} (h : A_ky σ σ') : A_av σ' V rw ki ci gth p j = A_av σ V rw ki ci gth p j := by
  unfold A_av A_gv
  rw [h 37 _ (by omega), h 34 _ (by omega), h 36 _ (by omega), h 35 _ (by omega)]
theorem A_Gr_cg {σ σ' : P_A} (h : A_ky σ σ') (hG : A_Gr σ) : A_Gr σ' := ⟨fun j hj => by rw [h 34 j (by omega)]; exact hG.1 j hj, fun j hj => by rw [h 35 j (by omega)]; exact hG.2.1 j hj, fun j hj => by rw [h 36 j (by omega)]; exact hG.2.2 j hj⟩
theorem P_qz2 {Q : P_R → P_A → Prop} {v v' : Int} {s : P_A} (hv : v = v') (q : Q (.inl (some (P_z v))) s) : Q (.inl (some (P_z v'))) s := by
  subst hv
  exact q
theorem s_sil {w : P_Lw} (hw : P_Cw w) {d : Nat} {Q : P_R → P_A → Prop} {ns : Int} {tb : Int → Nat} {rw : Int → Int} {vr : Int → Int → Int} {cl : Int → Int} {V : Int → Int → Int → Int} {it : Int} {ki ci : Int → Int} {gp oi lm : Int} {σ0 : P_A} (hA0 : A_V w σ0 ns tb rw vr) (hX0 : A_X σ0 ns tb rw cl V) (hF0 : A_F σ0 ns cl it ki ci gp oi lm) (hGr0 : A_gth ki it gp = 1 → A_Gr σ0) {sz : Nat} (hz : sz ≤ 2744) {j : Int} (hj : 0 ≤ j ∧ j < it) (hfd : ∀ p : Nat, p < sz → (0 ≤ σ0 37 p ∧ σ0 37 p ≤ 2743) ∧ (A_gth ki it gp = 1 → 0 ≤ σ0 37 p ∧ σ0 37 p ≤ 13)) (hz0 : σ0 31 14 = ((sz : Nat) : Int)) : ∀ (n : Nat) (σ : P_A) (i : Int), A_ky σ0 σ → 0 ≤ i → ((sz : Nat) : Int) = i + (n : Int) → (∀ p : Nat, (p : Int) < i → σ 40 p = A_av σ0 V rw ki ci (A_gth ki it gp) (p : Int) j) → (∀ σ', A_ky σ0 σ' → (∀ p : Nat, p < sz → σ' 40 p = A_av σ0 V rw ki ci (A_gth ki it gp) (p : Int) j) → P_aw w (d + 7) 11 30 [.ref (w.2.2 31), P_z j, P_z ((sz : Nat) : Int)] [] σ' Q) → P_aw w (d + 7) 11 2 [.ref (w.2.2 31), P_z j, P_z i] [] σ Q := by
  intro n
  induction n with
  | zero =>
    intro σ i hky hi hin hp q
    have hA := A_V_cg (fun a b h => hky a b (by omega)) hA0
    have hX := A_X_cg (fun s a b => (hA0.2.2 s a b).2.1.1) (fun a b h => hky a b (by omega)) hX0
    have hF := A_F_cg (fun a b h h2 => hky a b (by omega)) hF0
    have hGr : A_gth ki it gp = 1 → A_Gr σ := fun h => A_Gr_cg hky (hGr0 h)
    have hsz : σ 31 14 = ((sz : Nat) : Int) := (hky 31 14 (by omega)).trans hz0
    have hit := hF.2.1
    refine P_aw_op (L' := [.ref (w.2.2 31), P_z j, P_z i]) (st' := [P_z i]) P_i11_2 rfl (show P_aw _ _ _ 3 [.ref (w.2.2 31), P_z j, P_z i] [P_z i] _ _ from ?_)
    refine P_aw_op (L' := [.ref (w.2.2 31), P_z j, P_z i]) (st' := [.ref (w.2.2 31), P_z i]) P_i11_3 rfl (show P_aw _ _ _ 4 [.ref (w.2.2 31), P_z j, P_z i] [.ref (w.2.2 31), P_z i] _ _ from ?_)
    refine P_aw_getv P_i11_4 (hw.2.1 31 (by decide)) (hw.s rfl) rfl rfl (hsz) (show P_aw _ _ _ 7 [.ref (w.2.2 31), P_z j, P_z i] [P_z ((sz : Nat) : Int), P_z i] _ _ from ?_)
    refine P_aw_ict P_i11_7 ⟨by omega, by omega⟩ ⟨by omega, by omega⟩ (P_ci_get (by omega)) (show P_aw _ _ _ 30 [.ref (w.2.2 31), P_z j, P_z i] [] _ _ from ?_)
    have e : i = ((sz : Nat) : Int) := (by omega); subst e; exact q σ hky (fun p h => hp p (by omega))
  | succ n ih =>
    intro σ i hky hi hin hp q
    have hA := A_V_cg (fun a b h => hky a b (by omega)) hA0
    have hX := A_X_cg (fun s a b => (hA0.2.2 s a b).2.1.1) (fun a b h => hky a b (by omega)) hX0
    have hF := A_F_cg (fun a b h h2 => hky a b (by omega)) hF0
    have hGr : A_gth ki it gp = 1 → A_Gr σ := fun h => A_Gr_cg hky (hGr0 h)
    have hsz : σ 31 14 = ((sz : Nat) : Int) := (hky 31 14 (by omega)).trans hz0
    have hit := hF.2.1
    refine P_aw_op (L' := [.ref (w.2.2 31), P_z j, P_z i]) (st' := [P_z i]) P_i11_2 rfl (show P_aw _ _ _ 3 [.ref (w.2.2 31), P_z j, P_z i] [P_z i] _ _ from ?_)
    refine P_aw_op (L' := [.ref (w.2.2 31), P_z j, P_z i]) (st' := [.ref (w.2.2 31), P_z i]) P_i11_3 rfl (show P_aw _ _ _ 4 [.ref (w.2.2 31), P_z j, P_z i] [.ref (w.2.2 31), P_z i] _ _ from ?_)
    refine P_aw_getv P_i11_4 (hw.2.1 31 (by decide)) (hw.s rfl) rfl rfl (hsz) (show P_aw _ _ _ 7 [.ref (w.2.2 31), P_z j, P_z i] [P_z ((sz : Nat) : Int), P_z i] _ _ from ?_)
    refine P_aw_icf P_i11_7 ⟨by omega, by omega⟩ ⟨by omega, by omega⟩ (P_ci_gef (by omega)) (show P_aw _ _ _ 10 [.ref (w.2.2 31), P_z j, P_z i] [] _ _ from ?_)
    refine P_aw_op (L' := [.ref (w.2.2 31), P_z j, P_z i]) (st' := [.ref (w.2.2 31)]) P_i11_10 rfl (show P_aw _ _ _ 11 [.ref (w.2.2 31), P_z j, P_z i] [.ref (w.2.2 31)] _ _ from ?_)
    refine P_aw_getR P_i11_11 (hw.2.1 31 (by decide)) (hw.s rfl) rfl rfl (show P_aw _ _ _ 14 [.ref (w.2.2 31), P_z j, P_z i] [.ref (w.2.2 40)] _ _ from ?_)
    refine P_aw_op (L' := [.ref (w.2.2 31), P_z j, P_z i]) (st' := [P_z i, .ref (w.2.2 40)]) P_i11_14 rfl (show P_aw _ _ _ 15 [.ref (w.2.2 31), P_z j, P_z i] [P_z i, .ref (w.2.2 40)] _ _ from ?_)
    refine P_aw_op (L' := [.ref (w.2.2 31), P_z j, P_z i]) (st' := [.ref (w.2.2 31), P_z i, .ref (w.2.2 40)]) P_i11_15 rfl (show P_aw _ _ _ 16 [.ref (w.2.2 31), P_z j, P_z i] [.ref (w.2.2 31), P_z i, .ref (w.2.2 40)] _ _ from ?_)
    refine P_aw_op (L' := [.ref (w.2.2 31), P_z j, P_z i]) (st' := [P_z i, .ref (w.2.2 31), P_z i, .ref (w.2.2 40)]) P_i11_16 rfl (show P_aw _ _ _ 17 [.ref (w.2.2 31), P_z j, P_z i] [P_z i, .ref (w.2.2 31), P_z i, .ref (w.2.2 40)] _ _ from ?_)
    refine P_aw_op (L' := [.ref (w.2.2 31), P_z j, P_z i]) (st' := [P_z j, P_z i, .ref (w.2.2 31), P_z i, .ref (w.2.2 40)]) P_i11_17 rfl (show P_aw _ _ _ 18 [.ref (w.2.2 31), P_z j, P_z i] [P_z j, P_z i, .ref (w.2.2 31), P_z i, .ref (w.2.2 40)] _ _ from ?_)
    have hfd1 := hfd i.toNat (by omega)
    have e : A_av σ V rw ki ci (A_gth ki it gp) i j = (A_av σ0 V rw ki ci (A_gth ki it gp) i j) := A_av_cg hky
    have e37 : σ 37 i.toNat = σ0 37 i.toNat := hky 37 _ (by omega)
    refine P_aw_call P_i11_18 rfl rfl (fun _ => rfl) rfl rfl rfl rfl (y2 := 8) (as := [.ref (w.2.2 31), P_z i, P_z j]) (r0 := [P_z i, .ref (w.2.2 40)]) (P_inv_v (hw.2.1 31 (by decide)) (hw.s rfl) rfl rfl) (Nat.le_of_ble_eq_true rfl) (by decide) rfl (Nat.le_of_ble_eq_true rfl) (s_av hw hA hX hF hGr (by omega) hj (by rw [e37]; exact hfd1) ?_)
    rw [e]
    show P_aw _ _ _ 21 [.ref (w.2.2 31), P_z j, P_z i] [P_z (A_av σ0 V rw ki ci (A_gth ki it gp) i j), P_z i, .ref (w.2.2 40)] _ _
    refine P_aw_call P_i11_21 rfl rfl (fun _ => rfl) rfl rfl rfl rfl (y2 := 179) (as := [.ref (w.2.2 40), P_z i, P_z (A_av σ0 V rw ki ci (A_gth ki it gp) i j)]) (r0 := []) (fun _ _ => rfl) (Nat.le_of_ble_eq_true rfl) (by decide) rfl (Nat.le_of_ble_eq_true rfl) (show P_aw _ _ _ 0 [.ref (w.2.2 40), P_z i, P_z (A_av σ0 V rw ki ci (A_gth ki it gp) i j)] [] _ _ from ?_)
    refine P_aw_op (L' := [.ref (w.2.2 40), P_z i, P_z (A_av σ0 V rw ki ci (A_gth ki it gp) i j)]) (st' := [P_z i]) P_i179_0 rfl (show P_aw _ _ _ 1 [.ref (w.2.2 40), P_z i, P_z (A_av σ0 V rw ki ci (A_gth ki it gp) i j)] [P_z i] _ _ from ?_)
    refine P_aw_izf P_i179_1 ⟨by omega, by omega⟩ (P_ci_ltf (by omega)) (show P_aw _ _ _ 4 [.ref (w.2.2 40), P_z i, P_z (A_av σ0 V rw ki ci (A_gth ki it gp) i j)] [] _ _ from ?_)
    refine P_aw_op (L' := [.ref (w.2.2 40), P_z i, P_z (A_av σ0 V rw ki ci (A_gth ki it gp) i j)]) (st' := [P_z i]) P_i179_4 rfl (show P_aw _ _ _ 5 [.ref (w.2.2 40), P_z i, P_z (A_av σ0 V rw ki ci (A_gth ki it gp) i j)] [P_z i] _ _ from ?_)
    refine P_aw_op (L' := [.ref (w.2.2 40), P_z i, P_z (A_av σ0 V rw ki ci (A_gth ki it gp) i j)]) (st' := [.ref (w.2.2 40), P_z i]) P_i179_5 rfl (show P_aw _ _ _ 6 [.ref (w.2.2 40), P_z i, P_z (A_av σ0 V rw ki ci (A_gth ki it gp) i j)] [.ref (w.2.2 40), P_z i] _ _ from ?_)
    refine P_aw_alen P_i179_6 (hw.2.1 40 (by decide)) (hw.s rfl) (show P_aw _ _ _ 7 [.ref (w.2.2 40), P_z i, P_z (A_av σ0 V rw ki ci (A_gth ki it gp) i j)] [P_z 2744, P_z i] _ _ from ?_)
    refine P_aw_icf P_i179_7 ⟨by omega, by omega⟩ ⟨by decide, by decide⟩ (P_ci_gef (by omega)) (show P_aw _ _ _ 10 [.ref (w.2.2 40), P_z i, P_z (A_av σ0 V rw ki ci (A_gth ki it gp) i j)] [] _ _ from ?_)
    refine P_aw_op (L' := [.ref (w.2.2 40), P_z i, P_z (A_av σ0 V rw ki ci (A_gth ki it gp) i j)]) (st' := [.ref (w.2.2 40)]) P_i179_10 rfl (show P_aw _ _ _ 11 [.ref (w.2.2 40), P_z i, P_z (A_av σ0 V rw ki ci (A_gth ki it gp) i j)] [.ref (w.2.2 40)] _ _ from ?_)
    refine P_aw_op (L' := [.ref (w.2.2 40), P_z i, P_z (A_av σ0 V rw ki ci (A_gth ki it gp) i j)]) (st' := [P_z i, .ref (w.2.2 40)]) P_i179_11 rfl (show P_aw _ _ _ 12 [.ref (w.2.2 40), P_z i, P_z (A_av σ0 V rw ki ci (A_gth ki it gp) i j)] [P_z i, .ref (w.2.2 40)] _ _ from ?_)
    refine P_aw_op (L' := [.ref (w.2.2 40), P_z i, P_z (A_av σ0 V rw ki ci (A_gth ki it gp) i j)]) (st' := [P_z (A_av σ0 V rw ki ci (A_gth ki it gp) i j), P_z i, .ref (w.2.2 40)]) P_i179_12 rfl (show P_aw _ _ _ 13 [.ref (w.2.2 40), P_z i, P_z (A_av σ0 V rw ki ci (A_gth ki it gp) i j)] [P_z (A_av σ0 V rw ki ci (A_gth ki it gp) i j), P_z i, .ref (w.2.2 40)] _ _ from ?_)
    refine P_aw_ast P_i179_13 (hw.2.1 40 (by decide)) (hw.s rfl) (by omega) (by omega) (by decide) (show P_aw _ _ _ 14 [.ref (w.2.2 40), P_z i, P_z (A_av σ0 V rw ki ci (A_gth ki it gp) i j)] [] _ _ from ?_)
    refine P_aw_end P_i179_14 rfl rfl (fun _ => rfl) rfl ?_
    show P_aw _ _ _ 24 [.ref (w.2.2 31), P_z j, P_z i] [] _ _
    refine P_aw_op (L' := [.ref (w.2.2 31), P_z j, P_z (i + 1)]) (st' := []) P_i11_24 (P_o_iinc rfl) (show P_aw _ _ _ 27 [.ref (w.2.2 31), P_z j, P_z (i + 1)] [] _ _ from ?_)
    refine P_aw_goto P_i11_27 (show P_aw _ _ _ 2 [.ref (w.2.2 31), P_z j, P_z (i + 1)] [] _ _ from ?_)
    exact ih _ (i + 1) (fun a b h => (P_u2_ne (by omega)).trans (hky a b h)) (by omega) (by omega) (fun p h => by by_cases e9 : p = i.toNat; (have e8 : ((p : Nat) : Int) = i := (by omega); rw [e8, e9, P_u2_at]); (rw [P_u2_ne (fun q => e9 q.2)]; exact hp p (by omega))) q

/-- a result of all, in another order -/
def A_srt (f d : Int → Int) (n : Nat) (σ' : P_A) : Prop := ∃ sl : List A_kf, sl.Perm (A_mk f d n) ∧ A_inc2 sl ∧ ∀ j, j < sl.length → σ' 37 j = (A_at sl j).2
theorem s_si {w : P_Lw} (hw : P_Cw w) {d : Nat} {Q : P_R → P_A → Prop} {σ : P_A} {ns : Int} {tb : Int → Nat} {rw : Int → Int} {vr : Int → Int → Int} {cl : Int → Int} {V : Int → Int → Int → Int} {it : Int} {ki ci : Int → Int} {gp oi lm : Int} (hA : A_V w σ ns tb rw vr) (hX : A_X σ ns tb rw cl V) (hF : A_F σ ns cl it ki ci gp oi lm) (hGr : A_gth ki it gp = 1 → A_Gr σ) {sz : Nat} (hz : sz ≤ 2744) {j : Int} (hj : 0 ≤ j ∧ j < it) (hfd : ∀ p : Nat, p < sz → (0 ≤ σ 37 p ∧ σ 37 p ≤ 2743) ∧ (A_gth ki it gp = 1 → 0 ≤ σ 37 p ∧ σ 37 p ≤ 13)) (hz0 : σ 31 14 = ((sz : Nat) : Int)) {F : List Int} (hF14 : F.length ≤ 14) (hFm : ∀ p : Nat, p < sz → A_av σ V rw ki ci (A_gth ki it gp) (p : Int) j ∈ F) (hrg : ∀ p : Nat, p < sz → -1000000000 < A_av σ V rw ki ci (A_gth ki it gp) (p : Int) j ∧ A_av σ V rw ki ci (A_gth ki it gp) (p : Int) j < 1000000000) (q : ∀ σ', (∀ a b, ¬ (a = 37 ∨ a = 40 ∨ a = 41) → σ' a b = σ a b) → A_srt (fun p => A_av σ V rw ki ci (A_gth ki it gp) p j) (fun p => σ 37 p.toNat) sz σ' → Q (.inl none) σ') : P_aw w (d + 7) 11 0 [.ref (w.2.2 31), P_z j, P_un] [] σ Q := by
  refine P_aw_op (L' := [.ref (w.2.2 31), P_z j, P_un]) (st' := [P_z 0]) P_i11_0 rfl (show P_aw _ _ _ 1 [.ref (w.2.2 31), P_z j, P_un] [P_z 0] _ _ from ?_)
  refine P_aw_op (L' := [.ref (w.2.2 31), P_z j, P_z 0]) (st' := []) P_i11_1 rfl (show P_aw _ _ _ 2 [.ref (w.2.2 31), P_z j, P_z 0] [] _ _ from ?_)
  refine s_sil hw hA hX hF hGr hz hj hfd hz0 sz σ 0 (fun _ _ _ => rfl) (by omega) (by omega) (fun p h => by omega) (fun σ2 r1 r2 => ?_)
  refine P_aw_op (L' := [.ref (w.2.2 31), P_z j, P_z ((sz : Nat) : Int)]) (st' := [.ref (w.2.2 31)]) P_i11_30 rfl (show P_aw _ _ _ 31 [.ref (w.2.2 31), P_z j, P_z ((sz : Nat) : Int)] [.ref (w.2.2 31)] _ _ from ?_)
  have hKF : A_KF σ2 (A_mk (fun p => A_av σ V rw ki ci (A_gth ki it gp) p j) (fun p => σ 37 p.toNat) sz) := ⟨by rw [A_mk_len]; exact (r1 31 14 (by omega)).trans hz0, by rw [A_mk_len]; exact hz, fun p hp => by rw [A_mk_len] at hp; rw [A_mk_at hp]; exact ⟨r2 p hp, (r1 37 p (by omega)).trans rfl⟩, fun y hy => by obtain ⟨p, hp, rfl⟩ := A_mk_mem hy; have := hrg p hp; exact ⟨by show -1000000000 < A_av σ V rw ki ci (A_gth ki it gp) (p : Int) j; omega, by show A_av σ V rw ki ci (A_gth ki it gp) (p : Int) j < 1000000000; omega⟩⟩
  refine P_aw_call P_i11_31 rfl rfl (fun _ => rfl) rfl rfl rfl rfl (y2 := 12) (as := [.ref (w.2.2 31)]) (r0 := []) (P_inv_v (hw.2.1 31 (by decide)) (hw.s rfl) rfl rfl) (Nat.le_of_ble_eq_true rfl) (by decide) rfl (Nat.le_of_ble_eq_true rfl) (s_so (F := F) hw (fun y hy => by obtain ⟨p, hp, rfl⟩ := A_mk_mem hy; exact hFm p hp) hF14 hKF (fun σ3 sl u1 u2 u3 u4 => ?_))
  show P_aw _ _ _ 34 [.ref (w.2.2 31), P_z j, P_z ((sz : Nat) : Int)] [] _ _
  refine P_aw_end P_i11_34 rfl rfl (fun _ => rfl) rfl ?_
  exact q σ3 (fun a b h => (u3 a b (by omega) (by omega)).trans (r1 a b (by omega))) ⟨sl, u1, u2, u4⟩
