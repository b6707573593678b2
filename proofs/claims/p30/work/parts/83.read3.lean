/-! the class, written by wip/c1.py: 83.read3 -/
theorem A_frt_of {σ : P_A} {p ln k : Int} {B : List Int} (hp : p + (B.length : Int) = ln) (ht : A_tkn σ p B) (hB : ∀ x R, B = x :: R → k ≤ x ∧ x ≤ 6) : A_frt σ p ln k := by
  cases B with
  | nil => exact Or.inl (by simp at hp; omega)
  | cons x R =>
    have h := hB x R rfl
    refine Or.inr ⟨by simp at hp; omega, ?_⟩
    rw [(A_tkn_c ht).1]
    exact h
def A_gtk (gp : Int) : List Int := if gp = -1 then [] else [4, gp]
def A_otk (oi : Int) : List Int := if oi = -1 then [] else [5, 1000 + oi]
def A_ltk (lm : Int) : List Int := if lm = 1000000000 then [] else [6, 1000 + lm]
theorem A_ltk_h {lm x : Int} {R : List Int} (h : A_ltk lm = x :: R) : 6 ≤ x ∧ x ≤ 6 := by
  unfold A_ltk at h
  split at h
  · cases h
  · cases h; omega
theorem A_otk_h {oi lm x : Int} {R : List Int} (h : A_otk oi ++ A_ltk lm = x :: R) : 5 ≤ x ∧ x ≤ 6 := by
  unfold A_otk at h
  split at h
  · have := A_ltk_h (show A_ltk lm = x :: R from h); omega
  · cases h; omega
theorem A_gtk_h {gp oi lm x : Int} {R : List Int} (h : A_gtk gp ++ (A_otk oi ++ A_ltk lm) = x :: R) : 4 ≤ x ∧ x ≤ 6 := by
  unfold A_gtk at h
  split at h
  · have := A_otk_h (show A_otk oi ++ A_ltk lm = x :: R from h); omega
  · cases h; omega
theorem s_rg {w : P_Lw} (hw : P_Cw w) {d : Nat} {Q : P_R → P_A → Prop} {σ : P_A} {p ln it : Int} {ki ci : Int → Int} {ns : Int} {tb : Int → Nat} {cs : List A_cd} {gp oi lm : Int} {B : List Int} (hps : A_PS σ p it ki ci ns tb cs (-1) oi lm) (hln : σ 29 4 = ln) (hp : 0 ≤ p ∧ p + ((A_gtk gp ++ B).length : Int) = ln ∧ ln ≤ 40) (ht : A_tkn σ p (A_gtk gp ++ B)) (hv : gp = -1 ∨ 100 ≤ gp ∧ gp ≤ 199) (hB : ∀ x R, B = x :: R → 5 ≤ x ∧ x ≤ 6) (q : ∀ σ', A_PS σ' (p + ((A_gtk gp).length : Int)) it ki ci ns tb cs gp oi lm → A_rfr σ σ' → Q (.inl (some (P_z 1))) σ') : P_aw w (d + 6) 105 0 [.ref (w.2.2 29)] [] σ Q := by
  by_cases h : gp = -1
  · have e : A_gtk gp = [] := if_pos h
    rw [e] at hp ht q
    simp at hp
    refine s_rg0 hw hps hln ⟨hp.1, hp.2.2⟩ (A_frt_of (B := B) hp.2.1 ht hB) (q σ (by rw [h]; simpa using hps) A_rfr_rf)
  · have e : A_gtk gp = [4, gp] := if_neg h
    rw [e] at hp ht q
    simp at hp
    obtain ⟨t1, t2⟩ := A_tkn_c ht
    obtain ⟨t3, -⟩ := A_tkn_c t2
    refine s_rg1 (u := gp) hw hps hln ⟨hp.1, by omega, hp.2.2⟩ t1 t3 (by omega) (fun σ' k1 k2 => q σ' ?_ k2)
    simp
    rw [show p + 2 = p + 1 + 1 by omega]
    exact k1
theorem s_ro {w : P_Lw} (hw : P_Cw w) {d : Nat} {Q : P_R → P_A → Prop} {σ : P_A} {p ln it : Int} {ki ci : Int → Int} {ns : Int} {tb : Int → Nat} {cs : List A_cd} {gp oi lm : Int} {B : List Int} (hps : A_PS σ p it ki ci ns tb cs gp (-1) lm) (hln : σ 29 4 = ln) (hp : 0 ≤ p ∧ p + ((A_otk oi ++ B).length : Int) = ln ∧ ln ≤ 40) (ht : A_tkn σ p (A_otk oi ++ B)) (hv : oi = -1 ∨ 0 ≤ oi ∧ oi ≤ 999) (hB : ∀ x R, B = x :: R → 6 ≤ x ∧ x ≤ 6) (q : ∀ σ', A_PS σ' (p + ((A_otk oi).length : Int)) it ki ci ns tb cs gp oi lm → A_rfr σ σ' → Q (.inl (some (P_z 1))) σ') : P_aw w (d + 6) 106 0 [.ref (w.2.2 29)] [] σ Q := by
  by_cases h : oi = -1
  · have e : A_otk oi = [] := if_pos h
    rw [e] at hp ht q
    simp at hp
    refine s_ro0 hw hps hln ⟨hp.1, hp.2.2⟩ (A_frt_of (B := B) hp.2.1 ht hB) (q σ (by rw [h]; simpa using hps) A_rfr_rf)
  · have e : A_otk oi = [5, (1000 + oi)] := if_neg h
    rw [e] at hp ht q
    simp at hp
    obtain ⟨t1, t2⟩ := A_tkn_c ht
    obtain ⟨t3, -⟩ := A_tkn_c t2
    refine s_ro1 (u := (1000 + oi)) hw hps hln ⟨hp.1, by omega, hp.2.2⟩ t1 t3 (by omega) (fun σ' k1 k2 => q σ' ?_ k2)
    simp
    rw [show p + 2 = p + 1 + 1 by omega]
    exact (by rw [show 1000 + oi - 1000 = oi by omega] at k1; exact k1)
theorem s_rl {w : P_Lw} (hw : P_Cw w) {d : Nat} {Q : P_R → P_A → Prop} {σ : P_A} {p ln it : Int} {ki ci : Int → Int} {ns : Int} {tb : Int → Nat} {cs : List A_cd} {gp oi lm : Int} {B : List Int} (hps : A_PS σ p it ki ci ns tb cs gp oi 1000000000) (hln : σ 29 4 = ln) (hp : 0 ≤ p ∧ p + ((A_ltk lm ++ B).length : Int) = ln ∧ ln ≤ 40) (ht : A_tkn σ p (A_ltk lm ++ B)) (hv : lm = 1000000000 ∨ 0 ≤ lm ∧ lm ≤ 999) (hB : ∀ x R, B = x :: R → 7 ≤ x ∧ x ≤ 6) (q : ∀ σ', A_PS σ' (p + ((A_ltk lm).length : Int)) it ki ci ns tb cs gp oi lm → A_rfr σ σ' → Q (.inl (some (P_z 1))) σ') : P_aw w (d + 6) 107 0 [.ref (w.2.2 29)] [] σ Q := by
  by_cases h : lm = 1000000000
  · have e : A_ltk lm = [] := if_pos h
    rw [e] at hp ht q
    simp at hp
    refine s_rl0 hw hps hln ⟨hp.1, hp.2.2⟩ (A_frt_of (B := B) hp.2.1 ht hB) (q σ (by rw [h]; simpa using hps) A_rfr_rf)
  · have e : A_ltk lm = [6, (1000 + lm)] := if_neg h
    rw [e] at hp ht q
    simp at hp
    obtain ⟨t1, t2⟩ := A_tkn_c ht
    obtain ⟨t3, -⟩ := A_tkn_c t2
    refine s_rl1 (u := (1000 + lm)) hw hps hln ⟨hp.1, by omega, hp.2.2⟩ t1 t3 (by omega) (fun σ' k1 k2 => q σ' ?_ k2)
    simp
    rw [show p + 2 = p + 1 + 1 by omega]
    exact (by rw [show 1000 + lm - 1000 = lm by omega] at k1; exact k1)
theorem A_cts_h {C : List A_cd} {gp oi lm x : Int} {R : List Int} (h : A_cts C 2 ++ (A_gtk gp ++ (A_otk oi ++ A_ltk lm)) = x :: R) : 0 ≤ x ∧ x ≤ 6 := by
  cases C with
  | nil => have := A_gtk_h (show A_gtk gp ++ (A_otk oi ++ A_ltk lm) = x :: R from h); omega
  | cons y C => cases h; omega
theorem A_sts_len {sn : Int → Int} : ∀ (n : Nat) (i : Int), (A_sts sn n i).length = n
  | 0, _ => rfl
  | n + 1, i => by simp [A_sts, A_sts_len n (i + 1)]
theorem s_rhd {w : P_Lw} (hw : P_Cw w) {d : Nat} {Q : P_R → P_A → Prop} {σ : P_A} {ln : Int} {ki ci : Int → Int} {n m : Nat} {sz : Int} {sn : Int → Int} {tb : Int → Nat} {C : List A_cd} {gp oi lm : Int} (hn : n ≤ 3) (hm : 1 ≤ m ∧ m ≤ 3) (hit : ∀ j, 0 ≤ j → j < (n : Int) + 1 → A_iok (ki j) (ci j)) (hTB : ∀ s, 0 ≤ s → s < (m : Int) → (0 ≤ sn s ∧ sn s < sz) ∧ 50 ≤ tb s ∧ P_isT w (tb s)) (hC5 : C.length ≤ 5) (hC : ∀ x ∈ C, (100 ≤ x.1 ∧ x.1 ≤ 199) ∧ (9 ≤ x.2.1 ∧ x.2.1 ≤ 11) ∧ (100 ≤ x.2.2.1 ∧ x.2.2.1 ≤ 199 ∨ 1000 ≤ x.2.2.1 ∧ x.2.2.1 ≤ 1999)) (hgp : gp = -1 ∨ 100 ≤ gp ∧ gp ≤ 199) (hoi : oi = -1 ∨ 0 ≤ oi ∧ oi ≤ 999) (hlm : lm = 1000000000 ∨ 0 ≤ lm ∧ lm ≤ 999) (hps : A_PS σ 0 0 ki ci 0 tb [] (-1) (-1) 1000000000) (hln : σ 29 4 = ln) (hl40 : ((0 :: (A_its ki ci (n + 1) 0 ++ 1 :: (A_sts sn m 0 ++ (A_cts C 2 ++ (A_gtk gp ++ (A_otk oi ++ A_ltk lm)))))).length : Int) = ln ∧ ln ≤ 40) (ht : A_tkn σ 0 (0 :: (A_its ki ci (n + 1) 0 ++ 1 :: (A_sts sn m 0 ++ (A_cts C 2 ++ (A_gtk gp ++ (A_otk oi ++ A_ltk lm))))))) (hss : σ 1 2 = sz ∧ sz ≤ 5 ∧ (∀ s, 0 ≤ s → s < (m : Int) → σ 2 (sn s).toNat = ((tb s : Nat) : Int))) (q : ∀ σ', A_PS σ' (0 + 1 + ((A_its ki ci (n + 1) 0).length : Int) + 1 + (m : Int)) ((n : Int) + 1) ki ci (m : Int) tb [] (-1) (-1) 1000000000 → A_rfr σ σ' → A_tkn σ' (0 + 1 + ((A_its ki ci (n + 1) 0).length : Int) + 1 + (m : Int)) (A_cts C 2 ++ (A_gtk gp ++ (A_otk oi ++ A_ltk lm))) → Q (.inl (some (P_z 1))) σ') : P_aw w (d + 9) 98 0 [.ref (w.2.2 29)] [] σ Q := by
  have hlen : (1 : Int) + ((A_its ki ci (n + 1) 0 ++ 1 :: (A_sts sn m 0 ++ (A_cts C 2 ++ (A_gtk gp ++ (A_otk oi ++ A_ltk lm))))).length : Int) = ln := by have := hl40.1; rw [List.length_cons] at this; omega
  have hlen2 : ((A_sts sn m 0 ++ (A_cts C 2 ++ (A_gtk gp ++ (A_otk oi ++ A_ltk lm)))).length : Int) = ln - 2 - ((A_its ki ci (n + 1) 0).length : Int) := by have := hlen; rw [List.length_append, List.length_cons] at this; omega
  have hlnr : 1 ≤ ln := by omega
  refine P_aw_op (L' := [.ref (w.2.2 29)]) (st' := [.ref (w.2.2 29)]) P_i98_0 rfl (show P_aw _ _ _ 1 [.ref (w.2.2 29)] [.ref (w.2.2 29)] _ _ from ?_)
  refine P_aw_call P_i98_1 rfl rfl (fun _ => rfl) rfl rfl rfl rfl (y2 := 110) (as := [.ref (w.2.2 29)]) (r0 := []) (P_inv_v (hw.2.1 29 (by decide)) (hw.s rfl) rfl rfl) (Nat.le_of_ble_eq_true rfl) (by decide) rfl (Nat.le_of_ble_eq_true rfl) (show P_aw _ _ _ 0 [.ref (w.2.2 29)] [] _ _ from ?_)
  refine P_aw_op (L' := [.ref (w.2.2 29)]) (st' := [.ref (w.2.2 29)]) P_i110_0 rfl (show P_aw _ _ _ 1 [.ref (w.2.2 29)] [.ref (w.2.2 29)] _ _ from ?_)
  refine P_aw_getv P_i110_1 (hw.2.1 29 (by decide)) (hw.s rfl) rfl rfl (hps.1) (show P_aw _ _ _ 4 [.ref (w.2.2 29)] [P_z 0] _ _ from ?_)
  refine P_aw_op (L' := [.ref (w.2.2 29)]) (st' := [.ref (w.2.2 29), P_z 0]) P_i110_4 rfl (show P_aw _ _ _ 5 [.ref (w.2.2 29)] [.ref (w.2.2 29), P_z 0] _ _ from ?_)
  refine P_aw_getv P_i110_5 (hw.2.1 29 (by decide)) (hw.s rfl) rfl rfl (hln) (show P_aw _ _ _ 8 [.ref (w.2.2 29)] [P_z ln, P_z 0] _ _ from ?_)
  refine P_aw_icf P_i110_8 ⟨by decide, by decide⟩ ⟨by omega, by omega⟩ (P_ci_gef (by omega)) (show P_aw _ _ _ 11 [.ref (w.2.2 29)] [] _ _ from ?_)
  refine P_aw_op (L' := [.ref (w.2.2 29)]) (st' := [.ref (w.2.2 29)]) P_i110_11 rfl (show P_aw _ _ _ 12 [.ref (w.2.2 29)] [.ref (w.2.2 29)] _ _ from ?_)
  refine P_aw_getR P_i110_12 (hw.2.1 29 (by decide)) (hw.s rfl) rfl rfl (show P_aw _ _ _ 15 [.ref (w.2.2 29)] [.ref (w.2.2 30)] _ _ from ?_)
  refine P_aw_op (L' := [.ref (w.2.2 29)]) (st' := [.ref (w.2.2 29), .ref (w.2.2 30)]) P_i110_15 rfl (show P_aw _ _ _ 16 [.ref (w.2.2 29)] [.ref (w.2.2 29), .ref (w.2.2 30)] _ _ from ?_)
  refine P_aw_getv P_i110_16 (hw.2.1 29 (by decide)) (hw.s rfl) rfl rfl (hps.1) (show P_aw _ _ _ 19 [.ref (w.2.2 29)] [P_z 0, .ref (w.2.2 30)] _ _ from ?_)
  refine P_aw_call P_i110_19 rfl rfl (fun _ => rfl) rfl rfl rfl rfl (y2 := 178) (as := [.ref (w.2.2 30), P_z 0]) (r0 := []) (fun _ _ => rfl) (Nat.le_of_ble_eq_true rfl) (by decide) rfl (Nat.le_of_ble_eq_true rfl) (show P_aw _ _ _ 0 [.ref (w.2.2 30), P_z 0] [] _ _ from ?_)
  refine P_aw_op (L' := [.ref (w.2.2 30), P_z 0]) (st' := [P_z 0]) P_i178_0 rfl (show P_aw _ _ _ 1 [.ref (w.2.2 30), P_z 0] [P_z 0] _ _ from ?_)
  refine P_aw_izf P_i178_1 ⟨by decide, by decide⟩ (P_ci_ltf (by omega)) (show P_aw _ _ _ 4 [.ref (w.2.2 30), P_z 0] [] _ _ from ?_)
  refine P_aw_op (L' := [.ref (w.2.2 30), P_z 0]) (st' := [P_z 0]) P_i178_4 rfl (show P_aw _ _ _ 5 [.ref (w.2.2 30), P_z 0] [P_z 0] _ _ from ?_)
  refine P_aw_op (L' := [.ref (w.2.2 30), P_z 0]) (st' := [.ref (w.2.2 30), P_z 0]) P_i178_5 rfl (show P_aw _ _ _ 6 [.ref (w.2.2 30), P_z 0] [.ref (w.2.2 30), P_z 0] _ _ from ?_)
  refine P_aw_alen P_i178_6 (hw.2.1 30 (by decide)) (hw.s rfl) (show P_aw _ _ _ 7 [.ref (w.2.2 30), P_z 0] [P_z 40, P_z 0] _ _ from ?_)
  refine P_aw_icf P_i178_7 ⟨by decide, by decide⟩ ⟨by decide, by decide⟩ (P_ci_gef (by omega)) (show P_aw _ _ _ 10 [.ref (w.2.2 30), P_z 0] [] _ _ from ?_)
  refine P_aw_op (L' := [.ref (w.2.2 30), P_z 0]) (st' := [.ref (w.2.2 30)]) P_i178_10 rfl (show P_aw _ _ _ 11 [.ref (w.2.2 30), P_z 0] [.ref (w.2.2 30)] _ _ from ?_)
  refine P_aw_op (L' := [.ref (w.2.2 30), P_z 0]) (st' := [P_z 0, .ref (w.2.2 30)]) P_i178_11 rfl (show P_aw _ _ _ 12 [.ref (w.2.2 30), P_z 0] [P_z 0, .ref (w.2.2 30)] _ _ from ?_)
  refine P_aw_aldv P_i178_12 (hw.2.1 30 (by decide)) (hw.s rfl) (by omega) (by omega) (by decide) ((A_tkn_c ht).1) (show P_aw _ _ _ 13 [.ref (w.2.2 30), P_z 0] [P_z 0] _ _ from ?_)
  refine P_aw_goto P_i178_13 (show P_aw _ _ _ 17 [.ref (w.2.2 30), P_z 0] [P_z 0] _ _ from ?_)
  refine P_aw_end P_i178_17 rfl rfl (fun _ => rfl) rfl ?_
  show P_aw _ _ _ 22 [.ref (w.2.2 29)] [P_z 0] _ _
  refine P_aw_goto P_i110_22 (show P_aw _ _ _ 26 [.ref (w.2.2 29)] [P_z 0] _ _ from ?_)
  refine P_aw_end P_i110_26 rfl rfl (fun _ => rfl) rfl ?_
  show P_aw _ _ _ 4 [.ref (w.2.2 29)] [P_z 0] _ _
  refine P_aw_izt P_i98_4 ⟨by decide, by decide⟩ (P_ci_eqt (by omega)) (show P_aw _ _ _ 17 [.ref (w.2.2 29)] [] _ _ from ?_)
  refine P_aw_op (L' := [.ref (w.2.2 29)]) (st' := [.ref (w.2.2 29)]) P_i98_17 rfl (show P_aw _ _ _ 18 [.ref (w.2.2 29)] [.ref (w.2.2 29)] _ _ from ?_)
  refine P_aw_op (L' := [.ref (w.2.2 29)]) (st' := [.ref (w.2.2 29), .ref (w.2.2 29)]) P_i98_18 rfl (show P_aw _ _ _ 19 [.ref (w.2.2 29)] [.ref (w.2.2 29), .ref (w.2.2 29)] _ _ from ?_)
  refine P_aw_getv P_i98_19 (hw.2.1 29 (by decide)) (hw.s rfl) rfl rfl (hps.1) (show P_aw _ _ _ 22 [.ref (w.2.2 29)] [P_z 0, .ref (w.2.2 29)] _ _ from ?_)
  refine P_aw_op (L' := [.ref (w.2.2 29)]) (st' := [P_z 1, P_z 0, .ref (w.2.2 29)]) P_i98_22 rfl (show P_aw _ _ _ 23 [.ref (w.2.2 29)] [P_z 1, P_z 0, .ref (w.2.2 29)] _ _ from ?_)
  refine P_aw_op (L' := [.ref (w.2.2 29)]) (st' := [P_z 1, .ref (w.2.2 29)]) P_i98_23 P_o_iadd (show P_aw _ _ _ 24 [.ref (w.2.2 29)] [P_z 1, .ref (w.2.2 29)] _ _ from ?_)
  refine P_aw_put P_i98_24 (hw.2.1 29 (by decide)) (hw.s rfl) rfl rfl rfl (show P_aw _ _ _ 27 [.ref (w.2.2 29)] [] _ _ from ?_)
  refine P_aw_op (L' := [.ref (w.2.2 29)]) (st' := [.ref (w.2.2 29)]) P_i98_27 rfl (show P_aw _ _ _ 28 [.ref (w.2.2 29)] [.ref (w.2.2 29)] _ _ from ?_)
  obtain ⟨hps1, hr1⟩ := A_PS_tl (σ' := (P_u2 σ 29 8 1)) (gp' := -1) (oi' := -1) (lm' := 1000000000) (fun a b h1 h2 => P_u2_ne (by omega)) (P_u2_at) ((P_u2_ne (by omega)).trans hps.2.2.2.2.2.2.1) ((P_u2_ne (by omega)).trans hps.2.2.2.2.2.2.2.1) ((P_u2_ne (by omega)).trans hps.2.2.2.2.2.2.2.2.1) hps
  have ht1 := (A_tkn_c (A_tkn_cg (σ' := (P_u2 σ 29 8 1)) (fun b => hr1 30 b (by omega) (by omega) (by omega) (by omega)) ht)).2
  have hln1 := (hr1 29 4 (by omega) (by omega) (by omega) (by omega)).trans hln
  refine P_aw_call P_i98_28 rfl rfl (fun _ => rfl) rfl rfl rfl rfl (y2 := 100) (as := [.ref (w.2.2 29)]) (r0 := []) (P_inv_v (hw.2.1 29 (by decide)) (hw.s rfl) rfl rfl) (Nat.le_of_ble_eq_true rfl) (by decide) rfl (Nat.le_of_ble_eq_true rfl) (s_rits hw hn hit hps1 hln1 ⟨by omega, by omega, hl40.2⟩ ht1 (fun σ2 k1 k2 => ?_))
  show P_aw _ _ _ 31 [.ref (w.2.2 29)] [P_z 1] _ _
  refine P_aw_izf P_i98_31 ⟨by decide, by decide⟩ (P_ci_eqf (by omega)) (show P_aw _ _ _ 34 [.ref (w.2.2 29)] [] _ _ from ?_)
  refine P_aw_op (L' := [.ref (w.2.2 29)]) (st' := [.ref (w.2.2 29)]) P_i98_34 rfl (show P_aw _ _ _ 35 [.ref (w.2.2 29)] [.ref (w.2.2 29)] _ _ from ?_)
  have h12 := A_rfr_tr hr1 k2
  have ht2 := (A_tkn_a (A_tkn_cg (σ' := σ2) (fun b => k2 30 b (by omega) (by omega) (by omega) (by omega)) ht1)).2
  obtain ⟨-, ht3⟩ := A_tkn_c ht2
  skip
  refine P_aw_call P_i98_35 rfl rfl (fun _ => rfl) rfl rfl rfl rfl (y2 := 102) (as := [.ref (w.2.2 29)]) (r0 := []) (P_inv_v (hw.2.1 29 (by decide)) (hw.s rfl) rfl rfl) (Nat.le_of_ble_eq_true rfl) (by decide) rfl (Nat.le_of_ble_eq_true rfl) (s_rts (m := (m : Int)) (n := m) (B := (A_cts C 2 ++ (A_gtk gp ++ (A_otk oi ++ A_ltk lm)))) hw (by omega) hTB rfl hm.1 k1 ((k2 29 4 (by omega) (by omega) (by omega) (by omega)).trans hln1) ⟨(h12 1 2 (by omega) (by omega) (by omega) (by omega)).trans hss.1, hss.2.1, fun s z0 z1 => (h12 2 _ (by omega) (by omega) (by omega) (by omega)).trans (hss.2.2 s z0 z1)⟩ ⟨by omega, by rw [hlen2]; omega, hl40.2⟩ ht3 (fun x R e => A_cts_h e) (fun σ3 k3 k4 => ?_))
  show P_aw _ _ _ 38 [.ref (w.2.2 29)] [P_z 1] _ _
  refine P_aw_izf P_i98_38 ⟨by decide, by decide⟩ (P_ci_eqf (by omega)) (show P_aw _ _ _ 41 [.ref (w.2.2 29)] [] _ _ from ?_)
  refine P_aw_op (L' := [.ref (w.2.2 29)]) (st' := [P_z 1]) P_i98_41 rfl (show P_aw _ _ _ 42 [.ref (w.2.2 29)] [P_z 1] _ _ from ?_)
  refine P_aw_goto P_i98_42 (show P_aw _ _ _ 46 [.ref (w.2.2 29)] [P_z 1] _ _ from ?_)
  refine P_aw_end P_i98_46 rfl rfl (fun _ => rfl) rfl ?_
  exact q σ3 k3 (A_rfr_tr h12 k4) (by have := (A_tkn_a (A_tkn_cg (σ' := σ3) (fun b => k4 30 b (by omega) (by omega) (by omega) (by omega)) ht3)).2; rw [A_sts_len] at this; exact this)

theorem s_rtail {w : P_Lw} (hw : P_Cw w) {d : Nat} {Q : P_R → P_A → Prop} {σ : P_A} {p ln it : Int} {ki ci : Int → Int} {ns : Int} {tb : Int → Nat} {C : List A_cd} {gp oi lm : Int} (hns : 1 ≤ ns ∧ ns ≤ 3) (hC5 : C.length ≤ 5) (hC : ∀ x ∈ C, (100 ≤ x.1 ∧ x.1 ≤ 199) ∧ (9 ≤ x.2.1 ∧ x.2.1 ≤ 11) ∧ (100 ≤ x.2.2.1 ∧ x.2.2.1 ≤ 199 ∨ 1000 ≤ x.2.2.1 ∧ x.2.2.1 ≤ 1999)) (hgp : gp = -1 ∨ 100 ≤ gp ∧ gp ≤ 199) (hoi : oi = -1 ∨ 0 ≤ oi ∧ oi ≤ 999) (hlm : lm = 1000000000 ∨ 0 ≤ lm ∧ lm ≤ 999) (hps : A_PS σ p it ki ci ns tb [] (-1) (-1) 1000000000) (hln : σ 29 4 = ln) (hp : 0 ≤ p ∧ p + ((A_cts C 2 ++ (A_gtk gp ++ (A_otk oi ++ A_ltk lm))).length : Int) = ln ∧ ln ≤ 40) (ht : A_tkn σ p (A_cts C 2 ++ (A_gtk gp ++ (A_otk oi ++ A_ltk lm)))) (q : ∀ σ', A_PS σ' ln it ki ci ns tb (C.map (fun x => A_lvl x (ns - 1))) gp oi lm → A_rfr σ σ' → Q (.inl (some (P_z 1))) σ') : P_aw w (d + 9) 99 0 [.ref (w.2.2 29)] [] σ Q := by
  have hlen : ((A_cts C 2).length : Int) + (((A_gtk gp).length : Int) + (((A_otk oi).length : Int) + ((A_ltk lm).length : Int))) = ln - p := by have := hp.2.1; rw [List.length_append, List.length_append, List.length_append] at this; omega
  have e1 : ((A_gtk gp ++ (A_otk oi ++ A_ltk lm)).length : Int) = ((A_gtk gp).length : Int) + (((A_otk oi).length : Int) + ((A_ltk lm).length : Int)) := by rw [List.length_append, List.length_append]; omega
  have e2 : ((A_otk oi ++ A_ltk lm).length : Int) = ((A_otk oi).length : Int) + ((A_ltk lm).length : Int) := by rw [List.length_append]; omega
  have e3 : ((A_ltk lm ++ ([] : List Int)).length : Int) = ((A_ltk lm).length : Int) := by rw [List.length_append]; simp
  have hlnr : 0 ≤ ln := by omega
  refine P_aw_op (L' := [.ref (w.2.2 29)]) (st' := [.ref (w.2.2 29)]) P_i99_0 rfl (show P_aw _ _ _ 1 [.ref (w.2.2 29)] [.ref (w.2.2 29)] _ _ from ?_)
  refine P_aw_call P_i99_1 rfl rfl (fun _ => rfl) rfl rfl rfl rfl (y2 := 103) (as := [.ref (w.2.2 29)]) (r0 := []) (P_inv_v (hw.2.1 29 (by decide)) (hw.s rfl) rfl rfl) (Nat.le_of_ble_eq_true rfl) (by decide) rfl (Nat.le_of_ble_eq_true rfl) (s_rcs (C := C) (B := A_gtk gp ++ (A_otk oi ++ A_ltk lm)) hw hns hC5 hC hps hln ⟨hp.1, by omega, hp.2.2⟩ ht (fun x R e => A_gtk_h e) (fun σ1 k1 r1 => ?_))
  have ht1 := (A_tkn_a (A_tkn_cg (σ' := σ1) (fun b => r1 30 b (by omega) (by omega) (by omega) (by omega)) ht)).2
  have hl1 := (r1 29 4 (by omega) (by omega) (by omega) (by omega)).trans hln
  show P_aw _ _ _ 4 [.ref (w.2.2 29)] [P_z 1] _ _
  refine P_aw_izf P_i99_4 ⟨by decide, by decide⟩ (P_ci_eqf (by omega)) (show P_aw _ _ _ 7 [.ref (w.2.2 29)] [] _ _ from ?_)
  refine P_aw_op (L' := [.ref (w.2.2 29)]) (st' := [.ref (w.2.2 29)]) P_i99_7 rfl (show P_aw _ _ _ 8 [.ref (w.2.2 29)] [.ref (w.2.2 29)] _ _ from ?_)
  refine P_aw_call P_i99_8 rfl rfl (fun _ => rfl) rfl rfl rfl rfl (y2 := 105) (as := [.ref (w.2.2 29)]) (r0 := []) (P_inv_v (hw.2.1 29 (by decide)) (hw.s rfl) rfl rfl) (Nat.le_of_ble_eq_true rfl) (by decide) rfl (Nat.le_of_ble_eq_true rfl) (s_rg (B := A_otk oi ++ A_ltk lm) hw k1 hl1 ⟨by omega, by omega, hp.2.2⟩ ht1 hgp (fun x R e => A_otk_h e) (fun σ2 k2 r2 => ?_))
  have ht2 := (A_tkn_a (A_tkn_cg (σ' := σ2) (fun b => r2 30 b (by omega) (by omega) (by omega) (by omega)) ht1)).2
  have hl2 := (r2 29 4 (by omega) (by omega) (by omega) (by omega)).trans hl1
  show P_aw _ _ _ 11 [.ref (w.2.2 29)] [P_z 1] _ _
  refine P_aw_izf P_i99_11 ⟨by decide, by decide⟩ (P_ci_eqf (by omega)) (show P_aw _ _ _ 14 [.ref (w.2.2 29)] [] _ _ from ?_)
  refine P_aw_op (L' := [.ref (w.2.2 29)]) (st' := [.ref (w.2.2 29)]) P_i99_14 rfl (show P_aw _ _ _ 15 [.ref (w.2.2 29)] [.ref (w.2.2 29)] _ _ from ?_)
  refine P_aw_call P_i99_15 rfl rfl (fun _ => rfl) rfl rfl rfl rfl (y2 := 106) (as := [.ref (w.2.2 29)]) (r0 := []) (P_inv_v (hw.2.1 29 (by decide)) (hw.s rfl) rfl rfl) (Nat.le_of_ble_eq_true rfl) (by decide) rfl (Nat.le_of_ble_eq_true rfl) (s_ro (B := A_ltk lm) hw k2 hl2 ⟨by omega, by omega, hp.2.2⟩ ht2 hoi (fun x R e => A_ltk_h e) (fun σ3 k3 r3 => ?_))
  have ht3 := (A_tkn_a (A_tkn_cg (σ' := σ3) (fun b => r3 30 b (by omega) (by omega) (by omega) (by omega)) ht2)).2
  have hl3 := (r3 29 4 (by omega) (by omega) (by omega) (by omega)).trans hl2
  show P_aw _ _ _ 18 [.ref (w.2.2 29)] [P_z 1] _ _
  refine P_aw_izf P_i99_18 ⟨by decide, by decide⟩ (P_ci_eqf (by omega)) (show P_aw _ _ _ 21 [.ref (w.2.2 29)] [] _ _ from ?_)
  refine P_aw_op (L' := [.ref (w.2.2 29)]) (st' := [.ref (w.2.2 29)]) P_i99_21 rfl (show P_aw _ _ _ 22 [.ref (w.2.2 29)] [.ref (w.2.2 29)] _ _ from ?_)
  refine P_aw_call P_i99_22 rfl rfl (fun _ => rfl) rfl rfl rfl rfl (y2 := 107) (as := [.ref (w.2.2 29)]) (r0 := []) (P_inv_v (hw.2.1 29 (by decide)) (hw.s rfl) rfl rfl) (Nat.le_of_ble_eq_true rfl) (by decide) rfl (Nat.le_of_ble_eq_true rfl) (s_rl (B := []) hw k3 hl3 ⟨by omega, by omega, hp.2.2⟩ (by rw [List.append_nil]; exact ht3) hlm (fun x R e => by cases e) (fun σ4 k4 r4 => ?_))
  have hl4 := (r4 29 4 (by omega) (by omega) (by omega) (by omega)).trans hl3
  show P_aw _ _ _ 25 [.ref (w.2.2 29)] [P_z 1] _ _
  refine P_aw_izt P_i99_25 ⟨by decide, by decide⟩ (P_ci_net (by omega)) (show P_aw _ _ _ 30 [.ref (w.2.2 29)] [] _ _ from ?_)
  refine P_aw_op (L' := [.ref (w.2.2 29)]) (st' := [.ref (w.2.2 29)]) P_i99_30 rfl (show P_aw _ _ _ 31 [.ref (w.2.2 29)] [.ref (w.2.2 29)] _ _ from ?_)
  refine P_aw_getv P_i99_31 (hw.2.1 29 (by decide)) (hw.s rfl) rfl rfl (k4.1.trans (by omega)) (show P_aw _ _ _ 34 [.ref (w.2.2 29)] [P_z ln] _ _ from ?_)
  refine P_aw_op (L' := [.ref (w.2.2 29)]) (st' := [.ref (w.2.2 29), P_z ln]) P_i99_34 rfl (show P_aw _ _ _ 35 [.ref (w.2.2 29)] [.ref (w.2.2 29), P_z ln] _ _ from ?_)
  refine P_aw_getv P_i99_35 (hw.2.1 29 (by decide)) (hw.s rfl) rfl rfl (hl4) (show P_aw _ _ _ 38 [.ref (w.2.2 29)] [P_z ln, P_z ln] _ _ from ?_)
  refine P_aw_ict P_i99_38 ⟨by omega, by omega⟩ ⟨by omega, by omega⟩ (P_ci_eqt (by omega)) (show P_aw _ _ _ 54 [.ref (w.2.2 29)] [] _ _ from ?_)
  refine P_aw_op (L' := [.ref (w.2.2 29)]) (st' := [P_z 1]) P_i99_54 rfl (show P_aw _ _ _ 55 [.ref (w.2.2 29)] [P_z 1] _ _ from ?_)
  refine P_aw_goto P_i99_55 (show P_aw _ _ _ 59 [.ref (w.2.2 29)] [P_z 1] _ _ from ?_)
  refine P_aw_end P_i99_59 rfl rfl (fun _ => rfl) rfl ?_
  exact q σ4 (by have h9 := k4; rw [show p + ((A_cts C 2).length : Int) + ((A_gtk gp).length : Int) + ((A_otk oi).length : Int) + ((A_ltk lm).length : Int) = ln by omega] at h9; exact h9) (A_rfr_tr r1 (A_rfr_tr r2 (A_rfr_tr r3 r4)))

theorem s_fcl {w : P_Lw} (hw : P_Cw w) {d : Nat} {Q : P_R → P_A → Prop} {σ : P_A} {ns : Int} {tb : Int → Nat} {rw : Int → Int} {vr : Int → Int → Int} {cl : Int → Int} {V : Int → Int → Int → Int} {ln : Int} (hA : A_V w σ ns tb rw vr) (hX : A_X σ ns tb rw cl V) (hln : σ 29 4 = ln) (hl40 : 0 ≤ ln ∧ ln ≤ 40) (htk : ∀ j : Int, 0 ≤ j → j < ln → (0 ≤ σ 30 j.toNat ∧ σ 30 j.toNat ≤ 1999) ∧ (100 ≤ σ 30 j.toNat → σ 30 j.toNat ≤ 199 → (σ 30 j.toNat - 100) / 10 < ns ∧ (σ 30 j.toNat - 100) % 10 < cl ((σ 30 j.toNat - 100) / 10))) : ∀ (n : Nat) (i : Int), 0 ≤ i → ln = i + (n : Int) → Q (.inl (some (P_z 1))) σ → P_aw w (d + 6) 108 2 [.ref (w.2.2 29), P_z i, P_un] [] σ Q := by
  have hns := hA.2.1
  intro n
  induction n with
  | zero =>
    intro i hi hin q
    refine P_aw_op (L' := [.ref (w.2.2 29), P_z i, P_un]) (st' := [P_z i]) P_i108_2 rfl (show P_aw _ _ _ 3 [.ref (w.2.2 29), P_z i, P_un] [P_z i] _ _ from ?_)
    refine P_aw_op (L' := [.ref (w.2.2 29), P_z i, P_un]) (st' := [.ref (w.2.2 29), P_z i]) P_i108_3 rfl (show P_aw _ _ _ 4 [.ref (w.2.2 29), P_z i, P_un] [.ref (w.2.2 29), P_z i] _ _ from ?_)
    refine P_aw_getv P_i108_4 (hw.2.1 29 (by decide)) (hw.s rfl) rfl rfl (hln) (show P_aw _ _ _ 7 [.ref (w.2.2 29), P_z i, P_un] [P_z ln, P_z i] _ _ from ?_)
    refine P_aw_ict P_i108_7 ⟨by omega, by omega⟩ ⟨by omega, by omega⟩ (P_ci_get (by omega)) (show P_aw _ _ _ 51 [.ref (w.2.2 29), P_z i, P_un] [] _ _ from ?_)
    refine P_aw_op (L' := [.ref (w.2.2 29), P_z i, P_un]) (st' := [P_z 1]) P_i108_51 rfl (show P_aw _ _ _ 52 [.ref (w.2.2 29), P_z i, P_un] [P_z 1] _ _ from ?_)
    refine P_aw_end P_i108_52 rfl rfl (fun _ => rfl) rfl ?_
    exact q
  | succ n ih =>
    intro i hi hin q
    have hti := htk i (by omega) (by omega)
    refine P_aw_op (L' := [.ref (w.2.2 29), P_z i, P_un]) (st' := [P_z i]) P_i108_2 rfl (show P_aw _ _ _ 3 [.ref (w.2.2 29), P_z i, P_un] [P_z i] _ _ from ?_)
    refine P_aw_op (L' := [.ref (w.2.2 29), P_z i, P_un]) (st' := [.ref (w.2.2 29), P_z i]) P_i108_3 rfl (show P_aw _ _ _ 4 [.ref (w.2.2 29), P_z i, P_un] [.ref (w.2.2 29), P_z i] _ _ from ?_)
    refine P_aw_getv P_i108_4 (hw.2.1 29 (by decide)) (hw.s rfl) rfl rfl (hln) (show P_aw _ _ _ 7 [.ref (w.2.2 29), P_z i, P_un] [P_z ln, P_z i] _ _ from ?_)
    refine P_aw_icf P_i108_7 ⟨by omega, by omega⟩ ⟨by omega, by omega⟩ (P_ci_gef (by omega)) (show P_aw _ _ _ 10 [.ref (w.2.2 29), P_z i, P_un] [] _ _ from ?_)
    refine P_aw_op (L' := [.ref (w.2.2 29), P_z i, P_un]) (st' := [.ref (w.2.2 29)]) P_i108_10 rfl (show P_aw _ _ _ 11 [.ref (w.2.2 29), P_z i, P_un] [.ref (w.2.2 29)] _ _ from ?_)
    refine P_aw_getR P_i108_11 (hw.2.1 29 (by decide)) (hw.s rfl) rfl rfl (show P_aw _ _ _ 14 [.ref (w.2.2 29), P_z i, P_un] [.ref (w.2.2 30)] _ _ from ?_)
    refine P_aw_op (L' := [.ref (w.2.2 29), P_z i, P_un]) (st' := [P_z i, .ref (w.2.2 30)]) P_i108_14 rfl (show P_aw _ _ _ 15 [.ref (w.2.2 29), P_z i, P_un] [P_z i, .ref (w.2.2 30)] _ _ from ?_)
    refine P_aw_call P_i108_15 rfl rfl (fun _ => rfl) rfl rfl rfl rfl (y2 := 178) (as := [.ref (w.2.2 30), P_z i]) (r0 := []) (fun _ _ => rfl) (Nat.le_of_ble_eq_true rfl) (by decide) rfl (Nat.le_of_ble_eq_true rfl) (show P_aw _ _ _ 0 [.ref (w.2.2 30), P_z i] [] _ _ from ?_)
    refine P_aw_op (L' := [.ref (w.2.2 30), P_z i]) (st' := [P_z i]) P_i178_0 rfl (show P_aw _ _ _ 1 [.ref (w.2.2 30), P_z i] [P_z i] _ _ from ?_)
    refine P_aw_izf P_i178_1 ⟨by omega, by omega⟩ (P_ci_ltf (by omega)) (show P_aw _ _ _ 4 [.ref (w.2.2 30), P_z i] [] _ _ from ?_)
    refine P_aw_op (L' := [.ref (w.2.2 30), P_z i]) (st' := [P_z i]) P_i178_4 rfl (show P_aw _ _ _ 5 [.ref (w.2.2 30), P_z i] [P_z i] _ _ from ?_)
    refine P_aw_op (L' := [.ref (w.2.2 30), P_z i]) (st' := [.ref (w.2.2 30), P_z i]) P_i178_5 rfl (show P_aw _ _ _ 6 [.ref (w.2.2 30), P_z i] [.ref (w.2.2 30), P_z i] _ _ from ?_)
    refine P_aw_alen P_i178_6 (hw.2.1 30 (by decide)) (hw.s rfl) (show P_aw _ _ _ 7 [.ref (w.2.2 30), P_z i] [P_z 40, P_z i] _ _ from ?_)
    refine P_aw_icf P_i178_7 ⟨by omega, by omega⟩ ⟨by decide, by decide⟩ (P_ci_gef (by omega)) (show P_aw _ _ _ 10 [.ref (w.2.2 30), P_z i] [] _ _ from ?_)
    refine P_aw_op (L' := [.ref (w.2.2 30), P_z i]) (st' := [.ref (w.2.2 30)]) P_i178_10 rfl (show P_aw _ _ _ 11 [.ref (w.2.2 30), P_z i] [.ref (w.2.2 30)] _ _ from ?_)
    refine P_aw_op (L' := [.ref (w.2.2 30), P_z i]) (st' := [P_z i, .ref (w.2.2 30)]) P_i178_11 rfl (show P_aw _ _ _ 12 [.ref (w.2.2 30), P_z i] [P_z i, .ref (w.2.2 30)] _ _ from ?_)
    refine P_aw_ald P_i178_12 (hw.2.1 30 (by decide)) (hw.s rfl) (by omega) (by omega) (by decide) (show P_aw _ _ _ 13 [.ref (w.2.2 30), P_z i] [P_z (σ 30 i.toNat)] _ _ from ?_)
    refine P_aw_goto P_i178_13 (show P_aw _ _ _ 17 [.ref (w.2.2 30), P_z i] [P_z (σ 30 i.toNat)] _ _ from ?_)
    refine P_aw_end P_i178_17 rfl rfl (fun _ => rfl) rfl ?_
    show P_aw _ _ _ 18 [.ref (w.2.2 29), P_z i, P_un] [P_z (σ 30 i.toNat)] _ _
    refine P_aw_op (L' := [.ref (w.2.2 29), P_z i, P_z (σ 30 i.toNat)]) (st' := []) P_i108_18 rfl (show P_aw _ _ _ 19 [.ref (w.2.2 29), P_z i, P_z (σ 30 i.toNat)] [] _ _ from ?_)
    refine P_aw_op (L' := [.ref (w.2.2 29), P_z i, P_z (σ 30 i.toNat)]) (st' := [P_z (σ 30 i.toNat)]) P_i108_19 rfl (show P_aw _ _ _ 20 [.ref (w.2.2 29), P_z i, P_z (σ 30 i.toNat)] [P_z (σ 30 i.toNat)] _ _ from ?_)
    refine P_aw_call P_i108_20 rfl rfl (fun _ => rfl) rfl rfl rfl rfl (y2 := 174) (as := [P_z (σ 30 i.toNat)]) (r0 := []) (fun _ _ => rfl) (Nat.le_of_ble_eq_true rfl) (by decide) rfl (Nat.le_of_ble_eq_true rfl) (show P_aw _ _ _ 0 [P_z (σ 30 i.toNat)] [] _ _ from ?_)
    refine P_aw_op (L' := [P_z (σ 30 i.toNat)]) (st' := [P_z (σ 30 i.toNat)]) P_i174_0 rfl (show P_aw _ _ _ 1 [P_z (σ 30 i.toNat)] [P_z (σ 30 i.toNat)] _ _ from ?_)
    refine P_aw_op (L' := [P_z (σ 30 i.toNat)]) (st' := [P_z 100, P_z (σ 30 i.toNat)]) P_i174_1 (P_o_bi (by decide)) (show P_aw _ _ _ 3 [P_z (σ 30 i.toNat)] [P_z 100, P_z (σ 30 i.toNat)] _ _ from ?_)
    rcases Int.lt_or_le (σ 30 i.toNat) 100 with hc1 | hc1
    · refine P_aw_ict P_i174_3 ⟨by omega, by omega⟩ ⟨by decide, by decide⟩ (P_ci_ltt (by omega)) (show P_aw _ _ _ 17 [P_z (σ 30 i.toNat)] [] _ _ from ?_)
      refine P_aw_op (L' := [P_z (σ 30 i.toNat)]) (st' := [P_z 0]) P_i174_17 rfl (show P_aw _ _ _ 18 [P_z (σ 30 i.toNat)] [P_z 0] _ _ from ?_)
      refine P_aw_end P_i174_18 rfl rfl (fun _ => rfl) rfl ?_
      show P_aw _ _ _ 23 [.ref (w.2.2 29), P_z i, P_z (σ 30 i.toNat)] [P_z 0] _ _
      refine P_aw_izt P_i108_23 ⟨by decide, by decide⟩ (P_ci_eqt (by omega)) (show P_aw _ _ _ 45 [.ref (w.2.2 29), P_z i, P_z (σ 30 i.toNat)] [] _ _ from ?_)
      refine P_aw_op (L' := [.ref (w.2.2 29), P_z (i + 1), P_z (σ 30 i.toNat)]) (st' := []) P_i108_45 (P_o_iinc rfl) (show P_aw _ _ _ 48 [.ref (w.2.2 29), P_z (i + 1), P_z (σ 30 i.toNat)] [] _ _ from ?_)
      refine P_aw_goto P_i108_48 (show P_aw _ _ _ 2 [.ref (w.2.2 29), P_z (i + 1), P_un] [] _ _ from ?_)
      exact ih (i + 1) (by omega) (by omega) q
    · refine P_aw_icf P_i174_3 ⟨by omega, by omega⟩ ⟨by decide, by decide⟩ (P_ci_ltf (by omega)) (show P_aw _ _ _ 6 [P_z (σ 30 i.toNat)] [] _ _ from ?_)
      refine P_aw_op (L' := [P_z (σ 30 i.toNat)]) (st' := [P_z (σ 30 i.toNat)]) P_i174_6 rfl (show P_aw _ _ _ 7 [P_z (σ 30 i.toNat)] [P_z (σ 30 i.toNat)] _ _ from ?_)
      refine P_aw_op (L' := [P_z (σ 30 i.toNat)]) (st' := [P_z 199, P_z (σ 30 i.toNat)]) P_i174_7 (P_o_si (by decide)) (show P_aw _ _ _ 10 [P_z (σ 30 i.toNat)] [P_z 199, P_z (σ 30 i.toNat)] _ _ from ?_)
      rcases Int.lt_or_le 199 (σ 30 i.toNat) with hc2 | hc2
      · refine P_aw_ict P_i174_10 ⟨by omega, by omega⟩ ⟨by decide, by decide⟩ (P_ci_gtt (by omega)) (show P_aw _ _ _ 17 [P_z (σ 30 i.toNat)] [] _ _ from ?_)
        refine P_aw_op (L' := [P_z (σ 30 i.toNat)]) (st' := [P_z 0]) P_i174_17 rfl (show P_aw _ _ _ 18 [P_z (σ 30 i.toNat)] [P_z 0] _ _ from ?_)
        refine P_aw_end P_i174_18 rfl rfl (fun _ => rfl) rfl ?_
        show P_aw _ _ _ 23 [.ref (w.2.2 29), P_z i, P_z (σ 30 i.toNat)] [P_z 0] _ _
        refine P_aw_izt P_i108_23 ⟨by decide, by decide⟩ (P_ci_eqt (by omega)) (show P_aw _ _ _ 45 [.ref (w.2.2 29), P_z i, P_z (σ 30 i.toNat)] [] _ _ from ?_)
        refine P_aw_op (L' := [.ref (w.2.2 29), P_z (i + 1), P_z (σ 30 i.toNat)]) (st' := []) P_i108_45 (P_o_iinc rfl) (show P_aw _ _ _ 48 [.ref (w.2.2 29), P_z (i + 1), P_z (σ 30 i.toNat)] [] _ _ from ?_)
        refine P_aw_goto P_i108_48 (show P_aw _ _ _ 2 [.ref (w.2.2 29), P_z (i + 1), P_un] [] _ _ from ?_)
        exact ih (i + 1) (by omega) (by omega) q
      · refine P_aw_icf P_i174_10 ⟨by omega, by omega⟩ ⟨by decide, by decide⟩ (P_ci_gtf (by omega)) (show P_aw _ _ _ 13 [P_z (σ 30 i.toNat)] [] _ _ from ?_)
        refine P_aw_op (L' := [P_z (σ 30 i.toNat)]) (st' := [P_z 1]) P_i174_13 rfl (show P_aw _ _ _ 14 [P_z (σ 30 i.toNat)] [P_z 1] _ _ from ?_)
        refine P_aw_goto P_i174_14 (show P_aw _ _ _ 18 [P_z (σ 30 i.toNat)] [P_z 1] _ _ from ?_)
        refine P_aw_end P_i174_18 rfl rfl (fun _ => rfl) rfl ?_
        show P_aw _ _ _ 23 [.ref (w.2.2 29), P_z i, P_z (σ 30 i.toNat)] [P_z 1] _ _
        refine P_aw_izf P_i108_23 ⟨by decide, by decide⟩ (P_ci_eqf (by omega)) (show P_aw _ _ _ 26 [.ref (w.2.2 29), P_z i, P_z (σ 30 i.toNat)] [] _ _ from ?_)
        refine P_aw_op (L' := [.ref (w.2.2 29), P_z i, P_z (σ 30 i.toNat)]) (st' := [.ref (w.2.2 29)]) P_i108_26 rfl (show P_aw _ _ _ 27 [.ref (w.2.2 29), P_z i, P_z (σ 30 i.toNat)] [.ref (w.2.2 29)] _ _ from ?_)
        refine P_aw_getR P_i108_27 (hw.2.1 29 (by decide)) (hw.s rfl) rfl rfl (show P_aw _ _ _ 30 [.ref (w.2.2 29), P_z i, P_z (σ 30 i.toNat)] [.ref (w.2.2 6)] _ _ from ?_)
        refine P_aw_op (L' := [.ref (w.2.2 29), P_z i, P_z (σ 30 i.toNat)]) (st' := [P_z (σ 30 i.toNat), .ref (w.2.2 6)]) P_i108_30 rfl (show P_aw _ _ _ 31 [.ref (w.2.2 29), P_z i, P_z (σ 30 i.toNat)] [P_z (σ 30 i.toNat), .ref (w.2.2 6)] _ _ from ?_)
        refine P_aw_call P_i108_31 rfl rfl (fun _ => rfl) rfl rfl rfl rfl (y2 := 39) (as := [.ref (w.2.2 6), P_z (σ 30 i.toNat)]) (r0 := []) (P_inv_v (hw.2.1 6 (by decide)) (hw.s rfl) rfl rfl) (Nat.le_of_ble_eq_true rfl) (by decide) rfl (Nat.le_of_ble_eq_true rfl) (show P_aw _ _ _ 0 [.ref (w.2.2 6), P_z (σ 30 i.toNat)] [] _ _ from ?_)
        refine P_aw_op (L' := [.ref (w.2.2 6), P_z (σ 30 i.toNat)]) (st' := [P_z (σ 30 i.toNat)]) P_i39_0 rfl (show P_aw _ _ _ 1 [.ref (w.2.2 6), P_z (σ 30 i.toNat)] [P_z (σ 30 i.toNat)] _ _ from ?_)
        refine P_aw_call P_i39_1 rfl rfl (fun _ => rfl) rfl rfl rfl rfl (y2 := 177) (as := [P_z (σ 30 i.toNat)]) (r0 := []) (fun _ _ => rfl) (Nat.le_of_ble_eq_true rfl) (by decide) rfl (Nat.le_of_ble_eq_true rfl) (show P_aw _ _ _ 0 [P_z (σ 30 i.toNat)] [] _ _ from ?_)
        refine P_aw_op (L' := [P_z (σ 30 i.toNat)]) (st' := [P_z (σ 30 i.toNat)]) P_i177_0 rfl (show P_aw _ _ _ 1 [P_z (σ 30 i.toNat)] [P_z (σ 30 i.toNat)] _ _ from ?_)
        refine P_aw_op (L' := [P_z (σ 30 i.toNat)]) (st' := [P_z 100, P_z (σ 30 i.toNat)]) P_i177_1 (P_o_bi (by decide)) (show P_aw _ _ _ 3 [P_z (σ 30 i.toNat)] [P_z 100, P_z (σ 30 i.toNat)] _ _ from ?_)
        refine P_aw_op (L' := [P_z (σ 30 i.toNat)]) (st' := [P_z ((σ 30 i.toNat) - 100)]) P_i177_3 P_o_isub (show P_aw _ _ _ 4 [P_z (σ 30 i.toNat)] [P_z ((σ 30 i.toNat) - 100)] _ _ from ?_)
        refine P_aw_op (L' := [P_z (σ 30 i.toNat)]) (st' := [P_z 10, P_z ((σ 30 i.toNat) - 100)]) P_i177_4 (P_o_bi (by decide)) (show P_aw _ _ _ 6 [P_z (σ 30 i.toNat)] [P_z 10, P_z ((σ 30 i.toNat) - 100)] _ _ from ?_)
        refine P_aw_op (L' := [P_z (σ 30 i.toNat)]) (st' := [P_z (((σ 30 i.toNat) - 100) % 10)]) P_i177_6 (P_o_irem (by omega) (by omega) (by omega) (by omega)) (show P_aw _ _ _ 7 [P_z (σ 30 i.toNat)] [P_z (((σ 30 i.toNat) - 100) % 10)] _ _ from ?_)
        refine P_aw_end P_i177_7 rfl rfl (fun _ => rfl) rfl ?_
        show P_aw _ _ _ 4 [.ref (w.2.2 6), P_z (σ 30 i.toNat)] [P_z (((σ 30 i.toNat) - 100) % 10)] _ _
        refine P_aw_op (L' := [.ref (w.2.2 6), P_z (σ 30 i.toNat)]) (st' := [.ref (w.2.2 6), P_z (((σ 30 i.toNat) - 100) % 10)]) P_i39_4 rfl (show P_aw _ _ _ 5 [.ref (w.2.2 6), P_z (σ 30 i.toNat)] [.ref (w.2.2 6), P_z (((σ 30 i.toNat) - 100) % 10)] _ _ from ?_)
        refine P_aw_op (L' := [.ref (w.2.2 6), P_z (σ 30 i.toNat)]) (st' := [P_z (σ 30 i.toNat), .ref (w.2.2 6), P_z (((σ 30 i.toNat) - 100) % 10)]) P_i39_5 rfl (show P_aw _ _ _ 6 [.ref (w.2.2 6), P_z (σ 30 i.toNat)] [P_z (σ 30 i.toNat), .ref (w.2.2 6), P_z (((σ 30 i.toNat) - 100) % 10)] _ _ from ?_)
        refine P_aw_call P_i39_6 rfl rfl (fun _ => rfl) rfl rfl rfl rfl (y2 := 176) (as := [P_z (σ 30 i.toNat)]) (r0 := [.ref (w.2.2 6), P_z (((σ 30 i.toNat) - 100) % 10)]) (fun _ _ => rfl) (Nat.le_of_ble_eq_true rfl) (by decide) rfl (Nat.le_of_ble_eq_true rfl) (show P_aw _ _ _ 0 [P_z (σ 30 i.toNat)] [] _ _ from ?_)
        refine P_aw_op (L' := [P_z (σ 30 i.toNat)]) (st' := [P_z (σ 30 i.toNat)]) P_i176_0 rfl (show P_aw _ _ _ 1 [P_z (σ 30 i.toNat)] [P_z (σ 30 i.toNat)] _ _ from ?_)
        refine P_aw_op (L' := [P_z (σ 30 i.toNat)]) (st' := [P_z 100, P_z (σ 30 i.toNat)]) P_i176_1 (P_o_bi (by decide)) (show P_aw _ _ _ 3 [P_z (σ 30 i.toNat)] [P_z 100, P_z (σ 30 i.toNat)] _ _ from ?_)
        refine P_aw_op (L' := [P_z (σ 30 i.toNat)]) (st' := [P_z ((σ 30 i.toNat) - 100)]) P_i176_3 P_o_isub (show P_aw _ _ _ 4 [P_z (σ 30 i.toNat)] [P_z ((σ 30 i.toNat) - 100)] _ _ from ?_)
        refine P_aw_op (L' := [P_z (σ 30 i.toNat)]) (st' := [P_z 10, P_z ((σ 30 i.toNat) - 100)]) P_i176_4 (P_o_bi (by decide)) (show P_aw _ _ _ 6 [P_z (σ 30 i.toNat)] [P_z 10, P_z ((σ 30 i.toNat) - 100)] _ _ from ?_)
        refine P_aw_op (L' := [P_z (σ 30 i.toNat)]) (st' := [P_z (((σ 30 i.toNat) - 100) / 10)]) P_i176_6 (P_o_idiv (by omega) (by omega) (by omega) (by omega)) (show P_aw _ _ _ 7 [P_z (σ 30 i.toNat)] [P_z (((σ 30 i.toNat) - 100) / 10)] _ _ from ?_)
        refine P_aw_end P_i176_7 rfl rfl (fun _ => rfl) rfl ?_
        show P_aw _ _ _ 9 [.ref (w.2.2 6), P_z (σ 30 i.toNat)] [P_z (((σ 30 i.toNat) - 100) / 10), .ref (w.2.2 6), P_z (((σ 30 i.toNat) - 100) % 10)] _ _
        refine P_aw_call P_i39_9 rfl rfl (fun _ => rfl) rfl rfl rfl rfl (y2 := 38) (as := [.ref (w.2.2 6), P_z (((σ 30 i.toNat) - 100) / 10)]) (r0 := [P_z (((σ 30 i.toNat) - 100) % 10)]) (P_inv_v (hw.2.1 6 (by decide)) (hw.s rfl) rfl rfl) (Nat.le_of_ble_eq_true rfl) (by decide) rfl (Nat.le_of_ble_eq_true rfl) (show P_aw _ _ _ 0 [.ref (w.2.2 6), P_z (((σ 30 i.toNat) - 100) / 10), P_un] [] _ _ from ?_)
        refine P_aw_op (L' := [.ref (w.2.2 6), P_z (((σ 30 i.toNat) - 100) / 10), P_un]) (st' := [P_z (((σ 30 i.toNat) - 100) / 10)]) P_i38_0 rfl (show P_aw _ _ _ 1 [.ref (w.2.2 6), P_z (((σ 30 i.toNat) - 100) / 10), P_un] [P_z (((σ 30 i.toNat) - 100) / 10)] _ _ from ?_)
        refine P_aw_izf P_i38_1 ⟨by omega, by omega⟩ (P_ci_ltf (by omega)) (show P_aw _ _ _ 4 [.ref (w.2.2 6), P_z (((σ 30 i.toNat) - 100) / 10), P_un] [] _ _ from ?_)
        refine P_aw_op (L' := [.ref (w.2.2 6), P_z (((σ 30 i.toNat) - 100) / 10), P_un]) (st' := [P_z (((σ 30 i.toNat) - 100) / 10)]) P_i38_4 rfl (show P_aw _ _ _ 5 [.ref (w.2.2 6), P_z (((σ 30 i.toNat) - 100) / 10), P_un] [P_z (((σ 30 i.toNat) - 100) / 10)] _ _ from ?_)
        refine P_aw_op (L' := [.ref (w.2.2 6), P_z (((σ 30 i.toNat) - 100) / 10), P_un]) (st' := [.ref (w.2.2 6), P_z (((σ 30 i.toNat) - 100) / 10)]) P_i38_5 rfl (show P_aw _ _ _ 6 [.ref (w.2.2 6), P_z (((σ 30 i.toNat) - 100) / 10), P_un] [.ref (w.2.2 6), P_z (((σ 30 i.toNat) - 100) / 10)] _ _ from ?_)
        refine P_aw_getv P_i38_6 (hw.2.1 6 (by decide)) (hw.s rfl) rfl rfl (hA.1) (show P_aw _ _ _ 9 [.ref (w.2.2 6), P_z (((σ 30 i.toNat) - 100) / 10), P_un] [P_z ns, P_z (((σ 30 i.toNat) - 100) / 10)] _ _ from ?_)
        refine P_aw_icf P_i38_9 ⟨by omega, by omega⟩ ⟨by omega, by omega⟩ (P_ci_gef (by omega)) (show P_aw _ _ _ 12 [.ref (w.2.2 6), P_z (((σ 30 i.toNat) - 100) / 10), P_un] [] _ _ from ?_)
        refine P_aw_op (L' := [.ref (w.2.2 6), P_z (((σ 30 i.toNat) - 100) / 10), P_un]) (st' := [P_z (((σ 30 i.toNat) - 100) / 10)]) P_i38_12 rfl (show P_aw _ _ _ 13 [.ref (w.2.2 6), P_z (((σ 30 i.toNat) - 100) / 10), P_un] [P_z (((σ 30 i.toNat) - 100) / 10)] _ _ from ?_)
        refine P_aw_op (L' := [.ref (w.2.2 6), P_z (((σ 30 i.toNat) - 100) / 10), P_un]) (st' := [.ref (w.2.2 6), P_z (((σ 30 i.toNat) - 100) / 10)]) P_i38_13 rfl (show P_aw _ _ _ 14 [.ref (w.2.2 6), P_z (((σ 30 i.toNat) - 100) / 10), P_un] [.ref (w.2.2 6), P_z (((σ 30 i.toNat) - 100) / 10)] _ _ from ?_)
        refine P_aw_getR P_i38_14 (hw.2.1 6 (by decide)) (hw.s rfl) rfl rfl (show P_aw _ _ _ 17 [.ref (w.2.2 6), P_z (((σ 30 i.toNat) - 100) / 10), P_un] [.ref (w.2.2 9), P_z (((σ 30 i.toNat) - 100) / 10)] _ _ from ?_)
        refine P_aw_rlen P_i38_17 (hw.2.1 9 (by decide)) (hw.s rfl) (show P_aw _ _ _ 18 [.ref (w.2.2 6), P_z (((σ 30 i.toNat) - 100) / 10), P_un] [P_z 3, P_z (((σ 30 i.toNat) - 100) / 10)] _ _ from ?_)
        refine P_aw_ict P_i38_18 ⟨by omega, by omega⟩ ⟨by decide, by decide⟩ (P_ci_ltt (by omega)) (show P_aw _ _ _ 26 [.ref (w.2.2 6), P_z (((σ 30 i.toNat) - 100) / 10), P_un] [] _ _ from ?_)
        refine P_aw_op (L' := [.ref (w.2.2 6), P_z (((σ 30 i.toNat) - 100) / 10), P_un]) (st' := [.ref (w.2.2 6)]) P_i38_26 rfl (show P_aw _ _ _ 27 [.ref (w.2.2 6), P_z (((σ 30 i.toNat) - 100) / 10), P_un] [.ref (w.2.2 6)] _ _ from ?_)
        refine P_aw_getR P_i38_27 (hw.2.1 6 (by decide)) (hw.s rfl) rfl rfl (show P_aw _ _ _ 30 [.ref (w.2.2 6), P_z (((σ 30 i.toNat) - 100) / 10), P_un] [.ref (w.2.2 9)] _ _ from ?_)
        refine P_aw_op (L' := [.ref (w.2.2 6), P_z (((σ 30 i.toNat) - 100) / 10), P_un]) (st' := [P_z (((σ 30 i.toNat) - 100) / 10), .ref (w.2.2 9)]) P_i38_30 rfl (show P_aw _ _ _ 31 [.ref (w.2.2 6), P_z (((σ 30 i.toNat) - 100) / 10), P_un] [P_z (((σ 30 i.toNat) - 100) / 10), .ref (w.2.2 9)] _ _ from ?_)
        have hg3 := (hA.2.2 (((σ 30 i.toNat) - 100) / 10) (by omega) (by omega)).2.1.1
        refine P_aw_rldv P_i38_31 (hw.2.1 9 (by decide)) (hw.s rfl) (by decide) (by omega) (by omega) (by decide) ((hA.2.2 (((σ 30 i.toNat) - 100) / 10) (by omega) (by omega)).1) (by omega) (show P_aw _ _ _ 32 [.ref (w.2.2 6), P_z (((σ 30 i.toNat) - 100) / 10), P_un] [.ref (w.2.2 (tb (((σ 30 i.toNat) - 100) / 10)))] _ _ from ?_)
        refine P_aw_op (L' := [.ref (w.2.2 6), P_z (((σ 30 i.toNat) - 100) / 10), .ref (w.2.2 (tb (((σ 30 i.toNat) - 100) / 10)))]) (st' := []) P_i38_32 rfl (show P_aw _ _ _ 33 [.ref (w.2.2 6), P_z (((σ 30 i.toNat) - 100) / 10), .ref (w.2.2 (tb (((σ 30 i.toNat) - 100) / 10)))] [] _ _ from ?_)
        refine P_aw_op (L' := [.ref (w.2.2 6), P_z (((σ 30 i.toNat) - 100) / 10), .ref (w.2.2 (tb (((σ 30 i.toNat) - 100) / 10)))]) (st' := [.ref (w.2.2 (tb (((σ 30 i.toNat) - 100) / 10)))]) P_i38_33 rfl (show P_aw _ _ _ 34 [.ref (w.2.2 6), P_z (((σ 30 i.toNat) - 100) / 10), .ref (w.2.2 (tb (((σ 30 i.toNat) - 100) / 10)))] [.ref (w.2.2 (tb (((σ 30 i.toNat) - 100) / 10)))] _ _ from ?_)
        refine P_aw_brt P_i38_34 rfl (show P_aw _ _ _ 44 [.ref (w.2.2 6), P_z (((σ 30 i.toNat) - 100) / 10), .ref (w.2.2 (tb (((σ 30 i.toNat) - 100) / 10)))] [] _ _ from ?_)
        refine P_aw_op (L' := [.ref (w.2.2 6), P_z (((σ 30 i.toNat) - 100) / 10), .ref (w.2.2 (tb (((σ 30 i.toNat) - 100) / 10)))]) (st' := [.ref (w.2.2 (tb (((σ 30 i.toNat) - 100) / 10)))]) P_i38_44 rfl (show P_aw _ _ _ 45 [.ref (w.2.2 6), P_z (((σ 30 i.toNat) - 100) / 10), .ref (w.2.2 (tb (((σ 30 i.toNat) - 100) / 10)))] [.ref (w.2.2 (tb (((σ 30 i.toNat) - 100) / 10)))] _ _ from ?_)
        refine P_aw_end P_i38_45 rfl rfl (fun _ => rfl) rfl ?_
        show P_aw _ _ _ 12 [.ref (w.2.2 6), P_z (σ 30 i.toNat)] [.ref (w.2.2 (tb (((σ 30 i.toNat) - 100) / 10))), P_z (((σ 30 i.toNat) - 100) % 10)] _ _
        refine P_aw_call P_i39_12 rfl rfl (fun _ => rfl) rfl rfl rfl rfl (y2 := 119) (as := [.ref (w.2.2 (tb (((σ 30 i.toNat) - 100) / 10)))]) (r0 := [P_z (((σ 30 i.toNat) - 100) % 10)]) (P_inv_v (hA.2.2 (((σ 30 i.toNat) - 100) / 10) (by omega) (by omega)).2.1.2.1.2 (hA.2.2 (((σ 30 i.toNat) - 100) / 10) (by omega) (by omega)).2.1.2.1.1 rfl rfl) (Nat.le_of_ble_eq_true rfl) (by decide) rfl (Nat.le_of_ble_eq_true rfl) (show P_aw _ _ _ 0 [.ref (w.2.2 (tb (((σ 30 i.toNat) - 100) / 10)))] [] _ _ from ?_)
        refine P_aw_op (L' := [.ref (w.2.2 (tb (((σ 30 i.toNat) - 100) / 10)))]) (st' := [.ref (w.2.2 (tb (((σ 30 i.toNat) - 100) / 10)))]) P_i119_0 rfl (show P_aw _ _ _ 1 [.ref (w.2.2 (tb (((σ 30 i.toNat) - 100) / 10)))] [.ref (w.2.2 (tb (((σ 30 i.toNat) - 100) / 10)))] _ _ from ?_)
        have hg4 := (hX (((σ 30 i.toNat) - 100) / 10) (by omega) (by omega)).1.2
        refine P_aw_getv P_i119_1 (hA.2.2 (((σ 30 i.toNat) - 100) / 10) (by omega) (by omega)).2.1.2.1.2 (hA.2.2 (((σ 30 i.toNat) - 100) / 10) (by omega) (by omega)).2.1.2.1.1 rfl rfl ((hX (((σ 30 i.toNat) - 100) / 10) (by omega) (by omega)).1.1) (show P_aw _ _ _ 4 [.ref (w.2.2 (tb (((σ 30 i.toNat) - 100) / 10)))] [P_z (cl (((σ 30 i.toNat) - 100) / 10))] _ _ from ?_)
        refine P_aw_end P_i119_4 rfl rfl (fun _ => rfl) rfl ?_
        show P_aw _ _ _ 15 [.ref (w.2.2 6), P_z (σ 30 i.toNat)] [P_z (cl (((σ 30 i.toNat) - 100) / 10)), P_z (((σ 30 i.toNat) - 100) % 10)] _ _
        refine P_aw_icf P_i39_15 ⟨by omega, by omega⟩ ⟨by omega, by omega⟩ (P_ci_gef (by omega)) (show P_aw _ _ _ 18 [.ref (w.2.2 6), P_z (σ 30 i.toNat)] [] _ _ from ?_)
        refine P_aw_op (L' := [.ref (w.2.2 6), P_z (σ 30 i.toNat)]) (st' := [P_z 1]) P_i39_18 rfl (show P_aw _ _ _ 19 [.ref (w.2.2 6), P_z (σ 30 i.toNat)] [P_z 1] _ _ from ?_)
        refine P_aw_goto P_i39_19 (show P_aw _ _ _ 23 [.ref (w.2.2 6), P_z (σ 30 i.toNat)] [P_z 1] _ _ from ?_)
        refine P_aw_end P_i39_23 rfl rfl (fun _ => rfl) rfl ?_
        show P_aw _ _ _ 34 [.ref (w.2.2 29), P_z i, P_z (σ 30 i.toNat)] [P_z 1] _ _
        refine P_aw_izt P_i108_34 ⟨by decide, by decide⟩ (P_ci_net (by omega)) (show P_aw _ _ _ 45 [.ref (w.2.2 29), P_z i, P_z (σ 30 i.toNat)] [] _ _ from ?_)
        refine P_aw_op (L' := [.ref (w.2.2 29), P_z (i + 1), P_z (σ 30 i.toNat)]) (st' := []) P_i108_45 (P_o_iinc rfl) (show P_aw _ _ _ 48 [.ref (w.2.2 29), P_z (i + 1), P_z (σ 30 i.toNat)] [] _ _ from ?_)
        refine P_aw_goto P_i108_48 (show P_aw _ _ _ 2 [.ref (w.2.2 29), P_z (i + 1), P_un] [] _ _ from ?_)
        exact ih (i + 1) (by omega) (by omega) q

theorem s_fc {w : P_Lw} (hw : P_Cw w) {d : Nat} {Q : P_R → P_A → Prop} {σ : P_A} {ns : Int} {tb : Int → Nat} {rw : Int → Int} {vr : Int → Int → Int} {cl : Int → Int} {V : Int → Int → Int → Int} {ln : Int} (hA : A_V w σ ns tb rw vr) (hX : A_X σ ns tb rw cl V) (hln : σ 29 4 = ln) (hl40 : 0 ≤ ln ∧ ln ≤ 40) (htk : ∀ j : Int, 0 ≤ j → j < ln → (0 ≤ σ 30 j.toNat ∧ σ 30 j.toNat ≤ 1999) ∧ (100 ≤ σ 30 j.toNat → σ 30 j.toNat ≤ 199 → (σ 30 j.toNat - 100) / 10 < ns ∧ (σ 30 j.toNat - 100) % 10 < cl ((σ 30 j.toNat - 100) / 10))) (q : Q (.inl (some (P_z 1))) σ) : P_aw w (d + 6) 108 0 [.ref (w.2.2 29), P_un, P_un] [] σ Q := by
  refine P_aw_op (L' := [.ref (w.2.2 29), P_un, P_un]) (st' := [P_z 0]) P_i108_0 rfl (show P_aw _ _ _ 1 [.ref (w.2.2 29), P_un, P_un] [P_z 0] _ _ from ?_)
  refine P_aw_op (L' := [.ref (w.2.2 29), P_z 0, P_un]) (st' := []) P_i108_1 rfl (show P_aw _ _ _ 2 [.ref (w.2.2 29), P_z 0, P_un] [] _ _ from ?_)
  exact s_fcl hw hA hX hln hl40 htk ln.toNat 0 (by omega) (by omega) q

theorem s_fo {w : P_Lw} (hw : P_Cw w) {d : Nat} {Q : P_R → P_A → Prop} {σ : P_A} {ns : Int} {cl : Int → Int} {it : Int} {ki ci : Int → Int} {gp oi lm : Int} (hF : A_F σ ns cl it ki ci gp oi lm) (q : Q (.inl (some (P_z 1))) σ) : P_aw w (d + 6) 109 0 [.ref (w.2.2 29), P_un] [] σ Q := by
  have hit := hF.2.1
  refine P_aw_op (L' := [.ref (w.2.2 29), P_un]) (st' := [.ref (w.2.2 29)]) P_i109_0 rfl (show P_aw _ _ _ 1 [.ref (w.2.2 29), P_un] [.ref (w.2.2 29)] _ _ from ?_)
  refine P_aw_getR P_i109_1 (hw.2.1 29 (by decide)) (hw.s rfl) rfl rfl (show P_aw _ _ _ 4 [.ref (w.2.2 29), P_un] [.ref (w.2.2 6)] _ _ from ?_)
  refine P_aw_call P_i109_4 rfl rfl (fun _ => rfl) rfl rfl rfl rfl (y2 := 32) (as := [.ref (w.2.2 6)]) (r0 := []) (P_inv_v (hw.2.1 6 (by decide)) (hw.s rfl) rfl rfl) (Nat.le_of_ble_eq_true rfl) (by decide) rfl (Nat.le_of_ble_eq_true rfl) (show P_aw _ _ _ 0 [.ref (w.2.2 6)] [] _ _ from ?_)
  refine P_aw_op (L' := [.ref (w.2.2 6)]) (st' := [.ref (w.2.2 6)]) P_i32_0 rfl (show P_aw _ _ _ 1 [.ref (w.2.2 6)] [.ref (w.2.2 6)] _ _ from ?_)
  have hg1 := hF.2.2.2.2.2.2.1
  have hg2 := hF.2.1
  refine P_aw_getv P_i32_1 (hw.2.1 6 (by decide)) (hw.s rfl) rfl rfl (hF.2.2.2.2.2.1) (show P_aw _ _ _ 4 [.ref (w.2.2 6)] [P_z oi] _ _ from ?_)
  refine P_aw_end P_i32_4 rfl rfl (fun _ => rfl) rfl ?_
  show P_aw _ _ _ 7 [.ref (w.2.2 29), P_un] [P_z oi] _ _
  refine P_aw_op (L' := [.ref (w.2.2 29), P_z oi]) (st' := []) P_i109_7 rfl (show P_aw _ _ _ 8 [.ref (w.2.2 29), P_z oi] [] _ _ from ?_)
  refine P_aw_op (L' := [.ref (w.2.2 29), P_z oi]) (st' := [P_z oi]) P_i109_8 rfl (show P_aw _ _ _ 9 [.ref (w.2.2 29), P_z oi] [P_z oi] _ _ from ?_)
  refine P_aw_op (L' := [.ref (w.2.2 29), P_z oi]) (st' := [P_z (-1), P_z oi]) P_i109_9 rfl (show P_aw _ _ _ 10 [.ref (w.2.2 29), P_z oi] [P_z (-1), P_z oi] _ _ from ?_)
  by_cases hc3 : oi = (-1)
  · refine P_aw_ict P_i109_10 ⟨by omega, by omega⟩ ⟨by decide, by decide⟩ (P_ci_eqt (by omega)) (show P_aw _ _ _ 37 [.ref (w.2.2 29), P_z oi] [] _ _ from ?_)
    refine P_aw_op (L' := [.ref (w.2.2 29), P_z oi]) (st' := [P_z 1]) P_i109_37 rfl (show P_aw _ _ _ 38 [.ref (w.2.2 29), P_z oi] [P_z 1] _ _ from ?_)
    refine P_aw_goto P_i109_38 (show P_aw _ _ _ 42 [.ref (w.2.2 29), P_z oi] [P_z 1] _ _ from ?_)
    refine P_aw_end P_i109_42 rfl rfl (fun _ => rfl) rfl ?_
    exact q
  · refine P_aw_icf P_i109_10 ⟨by omega, by omega⟩ ⟨by decide, by decide⟩ (P_ci_eqf (by omega)) (show P_aw _ _ _ 13 [.ref (w.2.2 29), P_z oi] [] _ _ from ?_)
    refine P_aw_op (L' := [.ref (w.2.2 29), P_z oi]) (st' := [.ref (w.2.2 29)]) P_i109_13 rfl (show P_aw _ _ _ 14 [.ref (w.2.2 29), P_z oi] [.ref (w.2.2 29)] _ _ from ?_)
    refine P_aw_getR P_i109_14 (hw.2.1 29 (by decide)) (hw.s rfl) rfl rfl (show P_aw _ _ _ 17 [.ref (w.2.2 29), P_z oi] [.ref (w.2.2 6)] _ _ from ?_)
    refine P_aw_op (L' := [.ref (w.2.2 29), P_z oi]) (st' := [P_z oi, .ref (w.2.2 6)]) P_i109_17 rfl (show P_aw _ _ _ 18 [.ref (w.2.2 29), P_z oi] [P_z oi, .ref (w.2.2 6)] _ _ from ?_)
    refine P_aw_call P_i109_18 rfl rfl (fun _ => rfl) rfl rfl rfl rfl (y2 := 36) (as := [.ref (w.2.2 6), P_z oi]) (r0 := []) (P_inv_v (hw.2.1 6 (by decide)) (hw.s rfl) rfl rfl) (Nat.le_of_ble_eq_true rfl) (by decide) rfl (Nat.le_of_ble_eq_true rfl) (show P_aw _ _ _ 0 [.ref (w.2.2 6), P_z oi] [] _ _ from ?_)
    refine P_aw_op (L' := [.ref (w.2.2 6), P_z oi]) (st' := [P_z oi]) P_i36_0 rfl (show P_aw _ _ _ 1 [.ref (w.2.2 6), P_z oi] [P_z oi] _ _ from ?_)
    refine P_aw_izf P_i36_1 ⟨by omega, by omega⟩ (P_ci_ltf (by omega)) (show P_aw _ _ _ 4 [.ref (w.2.2 6), P_z oi] [] _ _ from ?_)
    refine P_aw_op (L' := [.ref (w.2.2 6), P_z oi]) (st' := [P_z oi]) P_i36_4 rfl (show P_aw _ _ _ 5 [.ref (w.2.2 6), P_z oi] [P_z oi] _ _ from ?_)
    refine P_aw_op (L' := [.ref (w.2.2 6), P_z oi]) (st' := [.ref (w.2.2 6), P_z oi]) P_i36_5 rfl (show P_aw _ _ _ 6 [.ref (w.2.2 6), P_z oi] [.ref (w.2.2 6), P_z oi] _ _ from ?_)
    have hg4 := hF.2.1
    refine P_aw_getv P_i36_6 (hw.2.1 6 (by decide)) (hw.s rfl) rfl rfl (hF.1) (show P_aw _ _ _ 9 [.ref (w.2.2 6), P_z oi] [P_z it, P_z oi] _ _ from ?_)
    refine P_aw_icf P_i36_9 ⟨by omega, by omega⟩ ⟨by omega, by omega⟩ (P_ci_gef (by omega)) (show P_aw _ _ _ 12 [.ref (w.2.2 6), P_z oi] [] _ _ from ?_)
    refine P_aw_op (L' := [.ref (w.2.2 6), P_z oi]) (st' := [P_z 1]) P_i36_12 rfl (show P_aw _ _ _ 13 [.ref (w.2.2 6), P_z oi] [P_z 1] _ _ from ?_)
    refine P_aw_goto P_i36_13 (show P_aw _ _ _ 17 [.ref (w.2.2 6), P_z oi] [P_z 1] _ _ from ?_)
    refine P_aw_end P_i36_17 rfl rfl (fun _ => rfl) rfl ?_
    show P_aw _ _ _ 21 [.ref (w.2.2 29), P_z oi] [P_z 1] _ _
    refine P_aw_izt P_i109_21 ⟨by decide, by decide⟩ (P_ci_net (by omega)) (show P_aw _ _ _ 37 [.ref (w.2.2 29), P_z oi] [] _ _ from ?_)
    refine P_aw_op (L' := [.ref (w.2.2 29), P_z oi]) (st' := [P_z 1]) P_i109_37 rfl (show P_aw _ _ _ 38 [.ref (w.2.2 29), P_z oi] [P_z 1] _ _ from ?_)
    refine P_aw_goto P_i109_38 (show P_aw _ _ _ 42 [.ref (w.2.2 29), P_z oi] [P_z 1] _ _ from ?_)
    refine P_aw_end P_i109_42 rfl rfl (fun _ => rfl) rfl ?_
    exact q

/-- a query as its tokens say -/
def A_QT (w : P_Lw) (σ : P_A) (ns : Int) (tb : Int → Nat) (rw : Int → Int) (vr : Int → Int → Int) (cl : Int → Int) (V : Int → Int → Int → Int) (C : List A_cd) (it : Int) (ki ci : Int → Int) (gp oi lm : Int) (n m : Nat) (sz : Int) (sn : Int → Int) (ln : Int) : Prop :=
  (it = (n : Int) + 1 ∧ n ≤ 3) ∧ (ns = (m : Int) ∧ 1 ≤ m ∧ m ≤ 3) ∧ (∀ j, 0 ≤ j → j < it → A_iok (ki j) (ci j) ∧ (ki j ≠ 7 → A_cok ns cl (ci j))) ∧
  (∀ s, 0 ≤ s → s < ns → ((0 ≤ sn s ∧ sn s < sz) ∧ 50 ≤ tb s ∧ P_isT w (tb s)) ∧ σ 2 (sn s).toNat = ((tb s : Nat) : Int) ∧ σ (tb s) 3 = rw s ∧ (0 ≤ rw s ∧ rw s ≤ 14) ∧ ∀ c, 0 ≤ c → c < 3 → σ (tb s + 2) c.toNat = vr s c ∧ 0 ≤ vr s c ∧ vr s c ≤ 14) ∧ A_X σ ns tb rw cl V ∧
  C.length ≤ 5 ∧ (∀ x ∈ C, (x.1 ≤ 199 ∧ 9 ≤ x.2.1 ∧ x.2.1 ≤ 11) ∧ A_tk ns cl x.1 ∧ A_tk ns cl x.2.2.1) ∧ (gp = -1 ∨ A_cok ns cl gp) ∧ (oi = -1 ∨ 0 ≤ oi ∧ oi < it) ∧ (lm = 1000000000 ∨ 0 ≤ lm ∧ lm ≤ 999) ∧
  σ 1 2 = sz ∧ sz ≤ 5 ∧ σ 29 4 = ln ∧ (((0 :: (A_its ki ci (n + 1) 0 ++ 1 :: (A_sts sn m 0 ++ (A_cts C 2 ++ (A_gtk gp ++ (A_otk oi ++ A_ltk lm)))))).length : Int) = ln ∧ ln ≤ 40) ∧ A_tkn σ 0 (0 :: (A_its ki ci (n + 1) 0 ++ 1 :: (A_sts sn m 0 ++ (A_cts C 2 ++ (A_gtk gp ++ (A_otk oi ++ A_ltk lm))))))
theorem A_tk_c {ns : Int} {cl : Int → Int} {t : Int} (h : A_tk ns cl t) : 100 ≤ t ∧ t ≤ 199 ∧ A_cok ns cl t ∨ 1000 ≤ t ∧ t ≤ 1999 := by
  unfold A_tk at h
  unfold A_cok
  by_cases e : t < 1000
  · have := h.2.2 e; exact Or.inl ⟨h.1, this.1, h.1, this.1, this.2⟩
  · exact Or.inr ⟨by omega, h.2.1⟩
/-- a token that findsColumns likes -/
def A_tgd (ns : Int) (cl : Int → Int) (t : Int) : Prop := (0 ≤ t ∧ t ≤ 1999) ∧ (100 ≤ t → t ≤ 199 → (t - 100) / 10 < ns ∧ (t - 100) % 10 < cl ((t - 100) / 10))
theorem A_tgd_c {ns : Int} {cl : Int → Int} {t : Int} (h : A_cok ns cl t) : A_tgd ns cl t := ⟨by unfold A_cok at h; omega, fun _ _ => ⟨h.2.2.1, h.2.2.2⟩⟩
theorem A_tgd_n {ns : Int} {cl : Int → Int} {t : Int} (h : 0 ≤ t ∧ t < 100 ∨ 199 < t ∧ t ≤ 1999) : A_tgd ns cl t := ⟨by omega, fun _ _ => by omega⟩
theorem A_tgd_its {ns : Int} {cl : Int → Int} {ki ci : Int → Int} : ∀ (n : Nat) (i : Int), (∀ j, i ≤ j → j < i + (n : Int) → A_iok (ki j) (ci j) ∧ (ki j ≠ 7 → A_cok ns cl (ci j))) → ∀ t ∈ A_its ki ci n i, A_tgd ns cl t
  | 0, i, _, t, h => by cases h
  | n + 1, i, H, t, h => by
    simp only [A_its] at h
    rcases List.mem_append.mp h with h | h
    · have hi := H i (by omega) (by omega)
      unfold A_itk at h
      split at h
      · have e := List.mem_singleton.mp h; subst e; exact A_tgd_n (by omega)
      · next h7 =>
        have hc := A_tgd_c (hi.2 h7)
        split at h
        · rcases List.mem_cons.mp h with e | h
          · subst e; exact A_tgd_n (by omega)
          · rw [List.mem_singleton.mp h]; exact hc
        · rw [List.mem_singleton.mp h]; exact hc
    · exact A_tgd_its n (i + 1) (fun j a b => H j (by omega) (by omega)) t h
theorem A_tgd_sts {ns : Int} {cl : Int → Int} {sn : Int → Int} : ∀ (n : Nat) (i : Int), (∀ s, i ≤ s → s < i + (n : Int) → 0 ≤ sn s ∧ sn s < 5) → ∀ t ∈ A_sts sn n i, A_tgd ns cl t
  | 0, i, _, t, h => by cases h
  | n + 1, i, H, t, h => by
    simp only [A_sts] at h
    have hi := H i (by omega) (by omega)
    rcases List.mem_cons.mp h with e | h
    · subst e; exact A_tgd_n (by omega)
    · exact A_tgd_sts n (i + 1) (fun j a b => H j (by omega) (by omega)) t h
theorem A_tgd_k {ns : Int} {cl : Int → Int} {t : Int} (h : A_tk ns cl t) : A_tgd ns cl t := by
  rcases A_tk_c h with ⟨-, -, h⟩ | h
  · exact A_tgd_c h
  · exact A_tgd_n (by omega)
theorem A_tgd_cts {ns : Int} {cl : Int → Int} : ∀ (C : List A_cd) (o : Int), (o = 2 ∨ o = 3) → (∀ x ∈ C, (x.1 ≤ 199 ∧ 9 ≤ x.2.1 ∧ x.2.1 ≤ 11) ∧ A_tk ns cl x.1 ∧ A_tk ns cl x.2.2.1) → ∀ t ∈ A_cts C o, A_tgd ns cl t
  | [], o, _, _, t, h => by cases h
  | x :: C, o, ho, H, t, h => by
    have hx := H x List.mem_cons_self
    simp only [A_cts] at h
    rcases List.mem_cons.mp h with e | h
    · subst e; exact A_tgd_n (by omega)
    rcases List.mem_cons.mp h with e | h
    · rw [e]; exact A_tgd_k hx.2.1
    rcases List.mem_cons.mp h with e | h
    · rw [e]; exact A_tgd_n (by omega)
    rcases List.mem_cons.mp h with e | h
    · rw [e]; exact A_tgd_k hx.2.2
    · exact A_tgd_cts C 3 (Or.inr rfl) (fun z hz => H z (List.mem_cons_of_mem _ hz)) t h
theorem A_QT_tok {w : P_Lw} {σ : P_A} {ns : Int} {tb : Int → Nat} {rw : Int → Int} {vr : Int → Int → Int} {cl : Int → Int} {V : Int → Int → Int → Int} {C : List A_cd} {it : Int} {ki ci : Int → Int} {gp oi lm : Int} {n m : Nat} {sz : Int} {sn : Int → Int} {ln : Int} (hQ : A_QT w σ ns tb rw vr cl V C it ki ci gp oi lm n m sz sn ln) : ∀ t ∈ (0 :: (A_its ki ci (n + 1) 0 ++ 1 :: (A_sts sn m 0 ++ (A_cts C 2 ++ (A_gtk gp ++ (A_otk oi ++ A_ltk lm)))))), A_tgd ns cl t := by
  obtain ⟨⟨h1, h1'⟩, ⟨h2, h2'⟩, h3, h4, h5, h6, h7, h8, h9, h10, h11, h12, h13, h14, h15⟩ := hQ
  intro t h
  rcases List.mem_cons.mp h with e | h
  · subst e; exact A_tgd_n (by omega)
  rcases List.mem_append.mp h with h | h
  · exact A_tgd_its (n + 1) 0 (fun j a b => h3 j a (by omega)) t h
  rcases List.mem_cons.mp h with e | h
  · subst e; exact A_tgd_n (by omega)
  rcases List.mem_append.mp h with h | h
  · exact A_tgd_sts m 0 (fun s a b => by have := (h4 s a (by omega)).1.1; omega) t h
  rcases List.mem_append.mp h with h | h
  · exact A_tgd_cts C 2 (Or.inl rfl) h7 t h
  rcases List.mem_append.mp h with h | h
  · unfold A_gtk at h
    split at h
    · cases h
    · next hg =>
      rcases List.mem_cons.mp h with e | h
      · subst e; exact A_tgd_n (by omega)
      · rw [List.mem_singleton.mp h]; exact A_tgd_c (h8.resolve_left hg)
  rcases List.mem_append.mp h with h | h
  · unfold A_otk at h
    split at h
    · cases h
    · next hg =>
      rcases List.mem_cons.mp h with e | h
      · subst e; exact A_tgd_n (by omega)
      · rw [List.mem_singleton.mp h]; exact A_tgd_n (by omega)
  · unfold A_ltk at h
    split at h
    · cases h
    · next hg =>
      rcases List.mem_cons.mp h with e | h
      · subst e; exact A_tgd_n (by omega)
      · rw [List.mem_singleton.mp h]; exact A_tgd_n (by omega)

theorem A_getD_mem {l : List Int} {j : Nat} (h : j < l.length) : l.getD j 0 ∈ l := by
  rw [List.getD_eq_getElem?_getD, List.getElem?_eq_getElem h]
  exact List.getElem_mem h
theorem s_rth {w : P_Lw} (hw : P_Cw w) {d : Nat} {Q : P_R → P_A → Prop} {σ : P_A} {ns : Int} {tb : Int → Nat} {rw : Int → Int} {vr : Int → Int → Int} {cl : Int → Int} {V : Int → Int → Int → Int} {C : List A_cd} {it : Int} {ki ci : Int → Int} {gp oi lm : Int} {n m : Nat} {sz : Int} {sn : Int → Int} {ln : Int} (hQ : A_QT w σ ns tb rw vr cl V C it ki ci gp oi lm n m sz sn ln) (q : ∀ σ2, A_PS σ2 ln it ki ci ns tb (C.map (fun x => A_lvl x (ns - 1))) gp oi lm → A_V w σ2 ns tb rw vr → A_X σ2 ns tb rw cl V → A_F σ2 ns cl it ki ci gp oi lm → A_rfr σ σ2 → ∀ σ', σ' = P_u2 σ2 29 5 1 → Q (.inl (some (P_z 0))) σ') : P_aw w (d + 11) 97 0 [.ref (w.2.2 29)] [] σ Q := by
  obtain ⟨h1, h2, h3, h4, h5, h6, h7, h8, h9, h10, h11, h12, h13, h14, h15⟩ := id hQ
  have hCk : ∀ x ∈ C, (100 ≤ x.1 ∧ x.1 ≤ 199) ∧ (9 ≤ x.2.1 ∧ x.2.1 ≤ 11) ∧ (100 ≤ x.2.2.1 ∧ x.2.2.1 ≤ 199 ∨ 1000 ≤ x.2.2.1 ∧ x.2.2.1 ≤ 1999) := fun x hx => by
    obtain ⟨⟨z1, z2, z3⟩, z4, z5⟩ := h7 x hx
    refine ⟨⟨z4.1, z1⟩, ⟨z2, z3⟩, ?_⟩
    rcases A_tk_c z5 with q | q
    · exact Or.inl ⟨q.1, q.2.1⟩
    · exact Or.inr q
  have hgp2 : gp = -1 ∨ 100 ≤ gp ∧ gp ≤ 199 := h8.imp id (fun q => ⟨q.1, q.2.1⟩)
  have hoi2 : oi = -1 ∨ 0 ≤ oi ∧ oi ≤ 999 := by omega
  have hlen := h14.1
  have hlT : ((A_cts C 2 ++ (A_gtk gp ++ (A_otk oi ++ A_ltk lm))).length : Int) = ln - (0 + 1 + ((A_its ki ci (n + 1) 0).length : Int) + 1 + (m : Int)) := by
    have := hlen
    rw [List.length_cons, List.length_append, List.length_cons, List.length_append, A_sts_len] at this
    omega
  refine P_aw_op (L' := [.ref (w.2.2 29)]) (st' := [.ref (w.2.2 29)]) P_i97_0 rfl (show P_aw _ _ _ 1 [.ref (w.2.2 29)] [.ref (w.2.2 29)] _ _ from ?_)
  refine P_aw_op (L' := [.ref (w.2.2 29)]) (st' := [P_z 0, .ref (w.2.2 29)]) P_i97_1 rfl (show P_aw _ _ _ 2 [.ref (w.2.2 29)] [P_z 0, .ref (w.2.2 29)] _ _ from ?_)
  refine P_aw_put P_i97_2 (hw.2.1 29 (by decide)) (hw.s rfl) rfl rfl rfl (show P_aw _ _ _ 5 [.ref (w.2.2 29)] [] _ _ from ?_)
  refine P_aw_op (L' := [.ref (w.2.2 29)]) (st' := [.ref (w.2.2 29)]) P_i97_5 rfl (show P_aw _ _ _ 6 [.ref (w.2.2 29)] [.ref (w.2.2 29)] _ _ from ?_)
  refine P_aw_op (L' := [.ref (w.2.2 29)]) (st' := [P_z 0, .ref (w.2.2 29)]) P_i97_6 rfl (show P_aw _ _ _ 7 [.ref (w.2.2 29)] [P_z 0, .ref (w.2.2 29)] _ _ from ?_)
  refine P_aw_put P_i97_7 (hw.2.1 29 (by decide)) (hw.s rfl) rfl rfl rfl (show P_aw _ _ _ 10 [.ref (w.2.2 29)] [] _ _ from ?_)
  refine P_aw_op (L' := [.ref (w.2.2 29)]) (st' := [.ref (w.2.2 29)]) P_i97_10 rfl (show P_aw _ _ _ 11 [.ref (w.2.2 29)] [.ref (w.2.2 29)] _ _ from ?_)
  refine P_aw_op (L' := [.ref (w.2.2 29)]) (st' := [P_z (-1), .ref (w.2.2 29)]) P_i97_11 rfl (show P_aw _ _ _ 12 [.ref (w.2.2 29)] [P_z (-1), .ref (w.2.2 29)] _ _ from ?_)
  refine P_aw_put P_i97_12 (hw.2.1 29 (by decide)) (hw.s rfl) rfl rfl rfl (show P_aw _ _ _ 15 [.ref (w.2.2 29)] [] _ _ from ?_)
  refine P_aw_op (L' := [.ref (w.2.2 29)]) (st' := [.ref (w.2.2 29)]) P_i97_15 rfl (show P_aw _ _ _ 16 [.ref (w.2.2 29)] [.ref (w.2.2 29)] _ _ from ?_)
  refine P_aw_getR P_i97_16 (hw.2.1 29 (by decide)) (hw.s rfl) rfl rfl (show P_aw _ _ _ 19 [.ref (w.2.2 29)] [.ref (w.2.2 6)] _ _ from ?_)
  refine P_aw_call P_i97_19 rfl rfl (fun _ => rfl) rfl rfl rfl rfl (y2 := 23) (as := [.ref (w.2.2 6)]) (r0 := []) (P_inv_v (hw.2.1 6 (by decide)) (hw.s rfl) rfl rfl) (Nat.le_of_ble_eq_true rfl) (by decide) rfl (Nat.le_of_ble_eq_true rfl) (show P_aw _ _ _ 0 [.ref (w.2.2 6)] [] _ _ from ?_)
  refine P_aw_op (L' := [.ref (w.2.2 6)]) (st' := [.ref (w.2.2 6)]) P_i23_0 rfl (show P_aw _ _ _ 1 [.ref (w.2.2 6)] [.ref (w.2.2 6)] _ _ from ?_)
  refine P_aw_op (L' := [.ref (w.2.2 6)]) (st' := [P_z 0, .ref (w.2.2 6)]) P_i23_1 rfl (show P_aw _ _ _ 2 [.ref (w.2.2 6)] [P_z 0, .ref (w.2.2 6)] _ _ from ?_)
  refine P_aw_put P_i23_2 (hw.2.1 6 (by decide)) (hw.s rfl) rfl rfl rfl (show P_aw _ _ _ 5 [.ref (w.2.2 6)] [] _ _ from ?_)
  refine P_aw_op (L' := [.ref (w.2.2 6)]) (st' := [.ref (w.2.2 6)]) P_i23_5 rfl (show P_aw _ _ _ 6 [.ref (w.2.2 6)] [.ref (w.2.2 6)] _ _ from ?_)
  refine P_aw_op (L' := [.ref (w.2.2 6)]) (st' := [P_z 0, .ref (w.2.2 6)]) P_i23_6 rfl (show P_aw _ _ _ 7 [.ref (w.2.2 6)] [P_z 0, .ref (w.2.2 6)] _ _ from ?_)
  refine P_aw_put P_i23_7 (hw.2.1 6 (by decide)) (hw.s rfl) rfl rfl rfl (show P_aw _ _ _ 10 [.ref (w.2.2 6)] [] _ _ from ?_)
  refine P_aw_op (L' := [.ref (w.2.2 6)]) (st' := [.ref (w.2.2 6)]) P_i23_10 rfl (show P_aw _ _ _ 11 [.ref (w.2.2 6)] [.ref (w.2.2 6)] _ _ from ?_)
  refine P_aw_op (L' := [.ref (w.2.2 6)]) (st' := [P_z (-1), .ref (w.2.2 6)]) P_i23_11 rfl (show P_aw _ _ _ 12 [.ref (w.2.2 6)] [P_z (-1), .ref (w.2.2 6)] _ _ from ?_)
  refine P_aw_put P_i23_12 (hw.2.1 6 (by decide)) (hw.s rfl) rfl rfl rfl (show P_aw _ _ _ 15 [.ref (w.2.2 6)] [] _ _ from ?_)
  refine P_aw_op (L' := [.ref (w.2.2 6)]) (st' := [.ref (w.2.2 6)]) P_i23_15 rfl (show P_aw _ _ _ 16 [.ref (w.2.2 6)] [.ref (w.2.2 6)] _ _ from ?_)
  refine P_aw_op (L' := [.ref (w.2.2 6)]) (st' := [P_z (-1), .ref (w.2.2 6)]) P_i23_16 rfl (show P_aw _ _ _ 17 [.ref (w.2.2 6)] [P_z (-1), .ref (w.2.2 6)] _ _ from ?_)
  refine P_aw_put P_i23_17 (hw.2.1 6 (by decide)) (hw.s rfl) rfl rfl rfl (show P_aw _ _ _ 20 [.ref (w.2.2 6)] [] _ _ from ?_)
  refine P_aw_op (L' := [.ref (w.2.2 6)]) (st' := [.ref (w.2.2 6)]) P_i23_20 rfl (show P_aw _ _ _ 21 [.ref (w.2.2 6)] [.ref (w.2.2 6)] _ _ from ?_)
  refine P_aw_op (L' := [.ref (w.2.2 6)]) (st' := [P_z 1000000000, .ref (w.2.2 6)]) P_i23_21 rfl (show P_aw _ _ _ 23 [.ref (w.2.2 6)] [P_z 1000000000, .ref (w.2.2 6)] _ _ from ?_)
  refine P_aw_put P_i23_23 (hw.2.1 6 (by decide)) (hw.s rfl) rfl rfl rfl (show P_aw _ _ _ 26 [.ref (w.2.2 6)] [] _ _ from ?_)
  refine P_aw_end P_i23_26 rfl rfl (fun _ => rfl) rfl ?_
  show P_aw _ _ _ 22 [.ref (w.2.2 29)] [] _ _
  refine P_aw_op (L' := [.ref (w.2.2 29)]) (st' := [.ref (w.2.2 29)]) P_i97_22 rfl (show P_aw _ _ _ 23 [.ref (w.2.2 29)] [.ref (w.2.2 29)] _ _ from ?_)
  refine P_aw_getR P_i97_23 (hw.2.1 29 (by decide)) (hw.s rfl) rfl rfl (show P_aw _ _ _ 26 [.ref (w.2.2 29)] [.ref (w.2.2 13)] _ _ from ?_)
  refine P_aw_call P_i97_26 rfl rfl (fun _ => rfl) rfl rfl rfl rfl (y2 := 54) (as := [.ref (w.2.2 13)]) (r0 := []) (P_inv_v (hw.2.1 13 (by decide)) (hw.s rfl) rfl rfl) (Nat.le_of_ble_eq_true rfl) (by decide) rfl (Nat.le_of_ble_eq_true rfl) (show P_aw _ _ _ 0 [.ref (w.2.2 13)] [] _ _ from ?_)
  refine P_aw_op (L' := [.ref (w.2.2 13)]) (st' := [.ref (w.2.2 13)]) P_i54_0 rfl (show P_aw _ _ _ 1 [.ref (w.2.2 13)] [.ref (w.2.2 13)] _ _ from ?_)
  refine P_aw_op (L' := [.ref (w.2.2 13)]) (st' := [P_z 0, .ref (w.2.2 13)]) P_i54_1 rfl (show P_aw _ _ _ 2 [.ref (w.2.2 13)] [P_z 0, .ref (w.2.2 13)] _ _ from ?_)
  refine P_aw_put P_i54_2 (hw.2.1 13 (by decide)) (hw.s rfl) rfl rfl rfl (show P_aw _ _ _ 5 [.ref (w.2.2 13)] [] _ _ from ?_)
  refine P_aw_op (L' := [.ref (w.2.2 13)]) (st' := [.ref (w.2.2 13)]) P_i54_5 rfl (show P_aw _ _ _ 6 [.ref (w.2.2 13)] [.ref (w.2.2 13)] _ _ from ?_)
  refine P_aw_op (L' := [.ref (w.2.2 13)]) (st' := [P_z 0, .ref (w.2.2 13)]) P_i54_6 rfl (show P_aw _ _ _ 7 [.ref (w.2.2 13)] [P_z 0, .ref (w.2.2 13)] _ _ from ?_)
  refine P_aw_put P_i54_7 (hw.2.1 13 (by decide)) (hw.s rfl) rfl rfl rfl (show P_aw _ _ _ 10 [.ref (w.2.2 13)] [] _ _ from ?_)
  refine P_aw_op (L' := [.ref (w.2.2 13)]) (st' := [.ref (w.2.2 13)]) P_i54_10 rfl (show P_aw _ _ _ 11 [.ref (w.2.2 13)] [.ref (w.2.2 13)] _ _ from ?_)
  refine P_aw_op (L' := [.ref (w.2.2 13)]) (st' := [P_z 0, .ref (w.2.2 13)]) P_i54_11 rfl (show P_aw _ _ _ 12 [.ref (w.2.2 13)] [P_z 0, .ref (w.2.2 13)] _ _ from ?_)
  have hC0 : A_C ((P_u2 (P_u2 (P_u2 (P_u2 (P_u2 (P_u2 (P_u2 (P_u2 (P_u2 (P_u2 σ 29 8 0) 29 6 0) 29 7 (-1)) 6 4 0) 6 5 0) 6 6 (-1)) 6 7 (-1)) 6 8 1000000000) 13 4 0) 13 5 0)) 1 0 (fun _ => 0) (fun _ => 0) (fun _ => 0) (fun _ => 0) := ⟨((P_u2_ne (by omega)).trans (P_u2_at)), by omega, fun i h0 h1 => by omega⟩
  have hO0 := A_O_bi (σ := (P_u2 (P_u2 (P_u2 (P_u2 (P_u2 (P_u2 (P_u2 (P_u2 (P_u2 (P_u2 σ 29 8 0) 29 6 0) 29 7 (-1)) 6 4 0) 6 5 0) 6 6 (-1)) 6 7 (-1)) 6 8 1000000000) 13 4 0) 13 5 0)) (cL := fun _ => 0) (cR := fun _ => 0) (s := 0) (sz := 0) (ns := 3) (by omega) (Or.inl rfl) (by omega)
  have hne : ∀ a b, a ≠ 28 → A_bi ((P_u2 (P_u2 (P_u2 (P_u2 (P_u2 (P_u2 (P_u2 (P_u2 (P_u2 (P_u2 σ 29 8 0) 29 6 0) 29 7 (-1)) 6 4 0) 6 5 0) 6 6 (-1)) 6 7 (-1)) 6 8 1000000000) 13 4 0) 13 5 0)) 0 0 (fun _ => 0) (fun _ => 0) a b = ((P_u2 (P_u2 (P_u2 (P_u2 (P_u2 (P_u2 (P_u2 (P_u2 (P_u2 (P_u2 σ 29 8 0) 29 6 0) 29 7 (-1)) 6 4 0) 6 5 0) 6 6 (-1)) 6 7 (-1)) 6 8 1000000000) 13 4 0) 13 5 0)) a b := fun a b h => A_bi_ne h (by omega)
  have hfr : A_rfr σ (A_bi ((P_u2 (P_u2 (P_u2 (P_u2 (P_u2 (P_u2 (P_u2 (P_u2 (P_u2 (P_u2 σ 29 8 0) 29 6 0) 29 7 (-1)) 6 4 0) 6 5 0) 6 6 (-1)) 6 7 (-1)) 6 8 1000000000) 13 4 0) 13 5 0)) 0 0 (fun _ => 0) (fun _ => 0)) := fun a b x y z u => (hne a b (by omega)).trans ((P_u2_ne (by omega)).trans ((P_u2_ne (by omega)).trans ((P_u2_ne (by omega)).trans ((P_u2_ne (by omega)).trans ((P_u2_ne (by omega)).trans ((P_u2_ne (by omega)).trans ((P_u2_ne (by omega)).trans ((P_u2_ne (by omega)).trans ((P_u2_ne (by omega)).trans (P_u2_ne (by omega)))))))))))
  have hps : A_PS (A_bi ((P_u2 (P_u2 (P_u2 (P_u2 (P_u2 (P_u2 (P_u2 (P_u2 (P_u2 (P_u2 σ 29 8 0) 29 6 0) 29 7 (-1)) 6 4 0) 6 5 0) 6 6 (-1)) 6 7 (-1)) 6 8 1000000000) 13 4 0) 13 5 0)) 0 0 (fun _ => 0) (fun _ => 0)) 0 0 ki ci 0 tb [] (-1) (-1) 1000000000 := ⟨(hne 29 8 (by omega)).trans ((P_u2_ne (by omega)).trans ((P_u2_ne (by omega)).trans ((P_u2_ne (by omega)).trans ((P_u2_ne (by omega)).trans ((P_u2_ne (by omega)).trans ((P_u2_ne (by omega)).trans ((P_u2_ne (by omega)).trans ((P_u2_ne (by omega)).trans ((P_u2_ne (by omega)).trans (P_u2_at)))))))))), (hne 6 4 (by omega)).trans ((P_u2_ne (by omega)).trans ((P_u2_ne (by omega)).trans ((P_u2_ne (by omega)).trans ((P_u2_ne (by omega)).trans ((P_u2_ne (by omega)).trans ((P_u2_ne (by omega)).trans (P_u2_at))))))), fun j a b => by omega, (hne 6 5 (by omega)).trans ((P_u2_ne (by omega)).trans ((P_u2_ne (by omega)).trans ((P_u2_ne (by omega)).trans ((P_u2_ne (by omega)).trans ((P_u2_ne (by omega)).trans (P_u2_at)))))), fun j a b => by omega, ⟨by rw [hne 13 4 (by omega)]; exact (P_u2_ne (by omega)).trans (P_u2_at), by simp, fun j f a b => by simp at b; omega⟩, (hne 6 6 (by omega)).trans ((P_u2_ne (by omega)).trans ((P_u2_ne (by omega)).trans ((P_u2_ne (by omega)).trans ((P_u2_ne (by omega)).trans (P_u2_at))))), (hne 6 7 (by omega)).trans ((P_u2_ne (by omega)).trans ((P_u2_ne (by omega)).trans ((P_u2_ne (by omega)).trans (P_u2_at)))), (hne 6 8 (by omega)).trans ((P_u2_ne (by omega)).trans ((P_u2_ne (by omega)).trans (P_u2_at))), (hne 13 5 (by omega)).trans (P_u2_at), fun j a b => by rw [(hO0 j a b).1]; rcases (by omega : j = 0 ∨ j = 1 ∨ j = 2) with rfl | rfl | rfl <;> rfl, (hne 29 6 (by omega)).trans ((P_u2_ne (by omega)).trans ((P_u2_ne (by omega)).trans ((P_u2_ne (by omega)).trans ((P_u2_ne (by omega)).trans ((P_u2_ne (by omega)).trans ((P_u2_ne (by omega)).trans ((P_u2_ne (by omega)).trans ((P_u2_ne (by omega)).trans (P_u2_at))))))))), (hne 29 7 (by omega)).trans ((P_u2_ne (by omega)).trans ((P_u2_ne (by omega)).trans ((P_u2_ne (by omega)).trans ((P_u2_ne (by omega)).trans ((P_u2_ne (by omega)).trans ((P_u2_ne (by omega)).trans ((P_u2_ne (by omega)).trans (P_u2_at))))))))⟩
  refine P_aw_call P_i54_12 rfl rfl (fun _ => rfl) rfl rfl rfl rfl (y2 := 82) (as := [.ref (w.2.2 13), P_z 0]) (r0 := []) (P_inv_v (hw.2.1 13 (by decide)) (hw.s rfl) rfl rfl) (Nat.le_of_ble_eq_true rfl) (by decide) rfl (Nat.le_of_ble_eq_true rfl) (s_bi (ns := 1) (s := 0) hw (by omega) hC0 (Or.inl rfl) ?_)
  generalize A_bi ((P_u2 (P_u2 (P_u2 (P_u2 (P_u2 (P_u2 (P_u2 (P_u2 (P_u2 (P_u2 σ 29 8 0) 29 6 0) 29 7 (-1)) 6 4 0) 6 5 0) 6 6 (-1)) 6 7 (-1)) 6 8 1000000000) 13 4 0) 13 5 0)) 0 0 (fun _ => 0) (fun _ => 0) = σ0 at hps hfr ⊢
  show P_aw _ _ _ 15 [.ref (w.2.2 13)] [] _ _
  refine P_aw_end P_i54_15 rfl rfl (fun _ => rfl) rfl ?_
  show P_aw _ _ _ 29 [.ref (w.2.2 29)] [] _ _
  refine P_aw_op (L' := [.ref (w.2.2 29)]) (st' := [.ref (w.2.2 29)]) P_i97_29 rfl (show P_aw _ _ _ 30 [.ref (w.2.2 29)] [.ref (w.2.2 29)] _ _ from ?_)
  refine P_aw_op (L' := [.ref (w.2.2 29)]) (st' := [.ref (w.2.2 29), .ref (w.2.2 29)]) P_i97_30 rfl (show P_aw _ _ _ 31 [.ref (w.2.2 29)] [.ref (w.2.2 29), .ref (w.2.2 29)] _ _ from ?_)
  refine P_aw_call P_i97_31 rfl rfl (fun _ => rfl) rfl rfl rfl rfl (y2 := 98) (as := [.ref (w.2.2 29)]) (r0 := [.ref (w.2.2 29)]) (P_inv_v (hw.2.1 29 (by decide)) (hw.s rfl) rfl rfl) (Nat.le_of_ble_eq_true rfl) (by decide) rfl (Nat.le_of_ble_eq_true rfl) (s_rhd hw h1.2 h2.2 (fun j a b => (h3 j a (by omega)).1) (fun s a b => (h4 s a (by omega)).1) h6 hCk hgp2 hoi2 h10 hps ((hfr 29 4 (by omega) (by omega) (by omega) (by omega)).trans h13) h14 (A_tkn_cg (fun b => hfr 30 b (by omega) (by omega) (by omega) (by omega)) h15) ⟨(hfr 1 2 (by omega) (by omega) (by omega) (by omega)).trans h11, h12, fun s a b => (hfr 2 _ (by omega) (by omega) (by omega) (by omega)).trans (h4 s a (by omega)).2.1⟩ (fun σ1 k1 r1 ht1 => ?_))
  show P_aw _ _ _ 34 [.ref (w.2.2 29)] [P_z 1, .ref (w.2.2 29)] _ _
  refine P_aw_izf P_i97_34 ⟨by decide, by decide⟩ (P_ci_eqf (by omega)) (show P_aw _ _ _ 37 [.ref (w.2.2 29)] [.ref (w.2.2 29)] _ _ from ?_)
  refine P_aw_op (L' := [.ref (w.2.2 29)]) (st' := [.ref (w.2.2 29), .ref (w.2.2 29)]) P_i97_37 rfl (show P_aw _ _ _ 38 [.ref (w.2.2 29)] [.ref (w.2.2 29), .ref (w.2.2 29)] _ _ from ?_)
  have hf1 := A_rfr_tr hfr r1
  have hl1 := (hf1 29 4 (by omega) (by omega) (by omega) (by omega)).trans h13
  have k1' : A_PS σ1 (0 + 1 + ((A_its ki ci (n + 1) 0).length : Int) + 1 + (m : Int)) it ki ci ns tb [] (-1) (-1) 1000000000 := by rw [h1.1, h2.1]; exact k1
  refine P_aw_call P_i97_38 rfl rfl (fun _ => rfl) rfl rfl rfl rfl (y2 := 99) (as := [.ref (w.2.2 29)]) (r0 := [.ref (w.2.2 29)]) (P_inv_v (hw.2.1 29 (by decide)) (hw.s rfl) rfl rfl) (Nat.le_of_ble_eq_true rfl) (by decide) rfl (Nat.le_of_ble_eq_true rfl) (s_rtail hw (by omega) h6 hCk hgp2 hoi2 h10 k1' hl1 ⟨by omega, by omega, h14.2⟩ ht1 (fun σ2 k2 r2 => ?_))
  have hf2 := A_rfr_tr hf1 r2
  have hl2 := (hf2 29 4 (by omega) (by omega) (by omega) (by omega)).trans h13
  have hA2 : A_V w σ2 ns tb rw vr := ⟨k2.2.2.2.1, by omega, fun s a b => ⟨k2.2.2.2.2.1 s a b, (h4 s a b).1.2, (hf2 _ _ (by have := (h4 s a b).1.2.1; omega) (by have := (h4 s a b).1.2.1; omega) (by have := (h4 s a b).1.2.1; omega) (by have := (h4 s a b).1.2.1; omega)).trans (h4 s a b).2.2.1, (h4 s a b).2.2.2.1, fun c c0 c1 => ⟨(hf2 _ _ (by have := (h4 s a b).1.2.1; omega) (by have := (h4 s a b).1.2.1; omega) (by have := (h4 s a b).1.2.1; omega) (by have := (h4 s a b).1.2.1; omega)).trans ((h4 s a b).2.2.2.2 c c0 c1).1, ((h4 s a b).2.2.2.2 c c0 c1).2⟩⟩⟩
  have hX2 : A_X σ2 ns tb rw cl V := A_X_cg (fun s a b => (h4 s a b).1.2.1) (fun a b q => hf2 a b (by omega) (by omega) (by omega) (by omega)) h5
  have hF2 : A_F σ2 ns cl it ki ci gp oi lm := ⟨k2.2.1, by omega, fun j a b => ⟨(k2.2.2.1 j a b).1, (k2.2.2.1 j a b).2, by have := (h3 j a b).1; unfold A_iok at this; omega, by have := (h3 j a b).1; unfold A_iok at this; omega, (h3 j a b).2⟩, k2.2.2.2.2.2.2.1, h8, k2.2.2.2.2.2.2.2.1, by omega, k2.2.2.2.2.2.2.2.2.1, by omega⟩
  show P_aw _ _ _ 41 [.ref (w.2.2 29)] [P_z 1, .ref (w.2.2 29)] _ _
  refine P_aw_izf P_i97_41 ⟨by decide, by decide⟩ (P_ci_eqf (by omega)) (show P_aw _ _ _ 44 [.ref (w.2.2 29)] [.ref (w.2.2 29)] _ _ from ?_)
  refine P_aw_op (L' := [.ref (w.2.2 29)]) (st' := [.ref (w.2.2 29), .ref (w.2.2 29)]) P_i97_44 rfl (show P_aw _ _ _ 45 [.ref (w.2.2 29)] [.ref (w.2.2 29), .ref (w.2.2 29)] _ _ from ?_)
  have ht2 := A_tkn_cg (fun b => hf2 30 b (by omega) (by omega) (by omega) (by omega)) h15
  refine P_aw_call P_i97_45 rfl rfl (fun _ => rfl) rfl rfl rfl rfl (y2 := 108) (as := [.ref (w.2.2 29)]) (r0 := [.ref (w.2.2 29)]) (P_inv_v (hw.2.1 29 (by decide)) (hw.s rfl) rfl rfl) (Nat.le_of_ble_eq_true rfl) (by decide) rfl (Nat.le_of_ble_eq_true rfl) (s_fc hw hA2 hX2 hl2 (by omega) (fun j a b => by have hj := ht2 j.toNat (by omega); rw [show (0 : Int) + ((j.toNat : Nat) : Int) = j by omega] at hj; rw [hj]; exact A_QT_tok hQ _ (A_getD_mem (by omega))) ?_)
  show P_aw _ _ _ 48 [.ref (w.2.2 29)] [P_z 1, .ref (w.2.2 29)] _ _
  refine P_aw_izf P_i97_48 ⟨by decide, by decide⟩ (P_ci_eqf (by omega)) (show P_aw _ _ _ 51 [.ref (w.2.2 29)] [.ref (w.2.2 29)] _ _ from ?_)
  refine P_aw_op (L' := [.ref (w.2.2 29)]) (st' := [.ref (w.2.2 29), .ref (w.2.2 29)]) P_i97_51 rfl (show P_aw _ _ _ 52 [.ref (w.2.2 29)] [.ref (w.2.2 29), .ref (w.2.2 29)] _ _ from ?_)
  refine P_aw_call P_i97_52 rfl rfl (fun _ => rfl) rfl rfl rfl rfl (y2 := 109) (as := [.ref (w.2.2 29)]) (r0 := [.ref (w.2.2 29)]) (P_inv_v (hw.2.1 29 (by decide)) (hw.s rfl) rfl rfl) (Nat.le_of_ble_eq_true rfl) (by decide) rfl (Nat.le_of_ble_eq_true rfl) (s_fo hw hF2 ?_)
  show P_aw _ _ _ 55 [.ref (w.2.2 29)] [P_z 1, .ref (w.2.2 29)] _ _
  refine P_aw_izf P_i97_55 ⟨by decide, by decide⟩ (P_ci_eqf (by omega)) (show P_aw _ _ _ 58 [.ref (w.2.2 29)] [.ref (w.2.2 29)] _ _ from ?_)
  refine P_aw_op (L' := [.ref (w.2.2 29)]) (st' := [P_z 1, .ref (w.2.2 29)]) P_i97_58 rfl (show P_aw _ _ _ 59 [.ref (w.2.2 29)] [P_z 1, .ref (w.2.2 29)] _ _ from ?_)
  refine P_aw_goto P_i97_59 (show P_aw _ _ _ 63 [.ref (w.2.2 29)] [P_z 1, .ref (w.2.2 29)] _ _ from ?_)
  refine P_aw_put P_i97_63 (hw.2.1 29 (by decide)) (hw.s rfl) rfl rfl rfl (show P_aw _ _ _ 66 [.ref (w.2.2 29)] [] _ _ from ?_)
  refine P_aw_op (L' := [.ref (w.2.2 29)]) (st' := [.ref (w.2.2 29)]) P_i97_66 rfl (show P_aw _ _ _ 67 [.ref (w.2.2 29)] [.ref (w.2.2 29)] _ _ from ?_)
  refine P_aw_getv P_i97_67 (hw.2.1 29 (by decide)) (hw.s rfl) rfl rfl ((P_u2_ne (by omega)).trans (k2.2.2.2.2.2.2.2.2.2.2.2.1)) (show P_aw _ _ _ 70 [.ref (w.2.2 29)] [P_z 0] _ _ from ?_)
  refine P_aw_end P_i97_70 rfl rfl (fun _ => rfl) rfl ?_
  exact q σ2 k2 hA2 hX2 hF2 hf2 _ rfl

theorem s_read {w : P_Lw} (hw : P_Cw w) {d : Nat} {Q : P_R → P_A → Prop} {σ : P_A} {ns : Int} {tb : Int → Nat} {rw : Int → Int} {vr : Int → Int → Int} {cl : Int → Int} {V : Int → Int → Int → Int} {C : List A_cd} {it : Int} {ki ci : Int → Int} {gp oi lm : Int} {n m : Nat} {sz : Int} {sn : Int → Int} {ln : Int} (hQ : A_QT w σ ns tb rw vr cl V C it ki ci gp oi lm n m sz sn ln) (q : ∀ σ', A_B w σ' ns tb rw vr cl V (C.map (fun x => A_lvl x (ns - 1))) (fun j => j) it ki ci gp oi lm 0 → (∀ a b, ¬ (6 ≤ a ∧ a ≤ 9) → ¬ (a = 29 ∧ 5 ≤ b) → ¬ (a = 13 ∧ 4 ≤ b) → ¬ (15 ≤ a ∧ a < 29) → a ≠ 44 → ¬ (a = 31 ∧ b = 16) → σ' a b = σ a b) → σ' 31 16 = 0 → Q (.inl (some (P_z 0))) σ') : P_aw w (d + 12) 143 0 [.ref (w.2.2 0), P_un] [] σ Q := by
  obtain ⟨h1, h2, h3, h4, h5, h6, h7, h8, h9, h10, h11, h12, h13, h14, h15⟩ := id hQ
  refine P_aw_op (L' := [.ref (w.2.2 0), P_un]) (st' := [.ref (w.2.2 0)]) P_i143_0 rfl (show P_aw _ _ _ 1 [.ref (w.2.2 0), P_un] [.ref (w.2.2 0)] _ _ from ?_)
  refine P_aw_getR P_i143_1 (hw.2.1 0 (by decide)) (hw.s rfl) rfl rfl (show P_aw _ _ _ 4 [.ref (w.2.2 0), P_un] [.ref (w.2.2 29)] _ _ from ?_)
  refine P_aw_call P_i143_4 rfl rfl (fun _ => rfl) rfl rfl rfl rfl (y2 := 97) (as := [.ref (w.2.2 29)]) (r0 := []) (P_inv_v (hw.2.1 29 (by decide)) (hw.s rfl) rfl rfl) (Nat.le_of_ble_eq_true rfl) (by decide) rfl (Nat.le_of_ble_eq_true rfl) (s_rth hw hQ (fun σ2 k2 hA2 hX2 hF2 hf2 σ3 e3 => ?_))
  subst e3
  show P_aw _ _ _ 7 [.ref (w.2.2 0), P_un] [P_z 0] _ _
  refine P_aw_op (L' := [.ref (w.2.2 0), P_z 0]) (st' := []) P_i143_7 rfl (show P_aw _ _ _ 8 [.ref (w.2.2 0), P_z 0] [] _ _ from ?_)
  refine P_aw_op (L' := [.ref (w.2.2 0), P_z 0]) (st' := [.ref (w.2.2 0)]) P_i143_8 rfl (show P_aw _ _ _ 9 [.ref (w.2.2 0), P_z 0] [.ref (w.2.2 0)] _ _ from ?_)
  refine P_aw_call P_i143_9 rfl rfl (fun _ => rfl) rfl rfl rfl rfl (y2 := 169) (as := [.ref (w.2.2 0)]) (r0 := []) (P_inv_v (hw.2.1 0 (by decide)) (hw.s rfl) rfl rfl) (Nat.le_of_ble_eq_true rfl) (by decide) rfl (Nat.le_of_ble_eq_true rfl) (show P_aw _ _ _ 0 [.ref (w.2.2 0)] [] _ _ from ?_)
  refine P_aw_op (L' := [.ref (w.2.2 0)]) (st' := [.ref (w.2.2 0)]) P_i169_0 rfl (show P_aw _ _ _ 1 [.ref (w.2.2 0)] [.ref (w.2.2 0)] _ _ from ?_)
  refine P_aw_getR P_i169_1 (hw.2.1 0 (by decide)) (hw.s rfl) rfl rfl (show P_aw _ _ _ 4 [.ref (w.2.2 0)] [.ref (w.2.2 44)] _ _ from ?_)
  refine P_aw_call P_i169_4 rfl rfl (fun _ => rfl) rfl rfl rfl rfl (y2 := 85) (as := [.ref (w.2.2 44)]) (r0 := []) (P_inv_v hw.2.2 (hw.s rfl) rfl rfl) (Nat.le_of_ble_eq_true rfl) (by decide) rfl (Nat.le_of_ble_eq_true rfl) (show P_aw _ _ _ 0 [.ref (w.2.2 44)] [] _ _ from ?_)
  refine P_aw_op (L' := [.ref (w.2.2 44)]) (st' := [.ref (w.2.2 44)]) P_i85_0 rfl (show P_aw _ _ _ 1 [.ref (w.2.2 44)] [.ref (w.2.2 44)] _ _ from ?_)
  refine P_aw_op (L' := [.ref (w.2.2 44)]) (st' := [P_z 0, .ref (w.2.2 44)]) P_i85_1 rfl (show P_aw _ _ _ 2 [.ref (w.2.2 44)] [P_z 0, .ref (w.2.2 44)] _ _ from ?_)
  refine P_aw_put P_i85_2 hw.2.2 (hw.s rfl) rfl rfl rfl (show P_aw _ _ _ 5 [.ref (w.2.2 44)] [] _ _ from ?_)
  refine P_aw_op (L' := [.ref (w.2.2 44)]) (st' := [.ref (w.2.2 44)]) P_i85_5 rfl (show P_aw _ _ _ 6 [.ref (w.2.2 44)] [.ref (w.2.2 44)] _ _ from ?_)
  refine P_aw_op (L' := [.ref (w.2.2 44)]) (st' := [P_z 0, .ref (w.2.2 44)]) P_i85_6 rfl (show P_aw _ _ _ 7 [.ref (w.2.2 44)] [P_z 0, .ref (w.2.2 44)] _ _ from ?_)
  refine P_aw_put P_i85_7 hw.2.2 (hw.s rfl) rfl rfl rfl (show P_aw _ _ _ 10 [.ref (w.2.2 44)] [] _ _ from ?_)
  refine P_aw_op (L' := [.ref (w.2.2 44)]) (st' := [.ref (w.2.2 44)]) P_i85_10 rfl (show P_aw _ _ _ 11 [.ref (w.2.2 44)] [.ref (w.2.2 44)] _ _ from ?_)
  refine P_aw_op (L' := [.ref (w.2.2 44)]) (st' := [P_z 0, .ref (w.2.2 44)]) P_i85_11 rfl (show P_aw _ _ _ 12 [.ref (w.2.2 44)] [P_z 0, .ref (w.2.2 44)] _ _ from ?_)
  refine P_aw_put P_i85_12 hw.2.2 (hw.s rfl) rfl rfl rfl (show P_aw _ _ _ 15 [.ref (w.2.2 44)] [] _ _ from ?_)
  refine P_aw_op (L' := [.ref (w.2.2 44)]) (st' := [.ref (w.2.2 44)]) P_i85_15 rfl (show P_aw _ _ _ 16 [.ref (w.2.2 44)] [.ref (w.2.2 44)] _ _ from ?_)
  refine P_aw_op (L' := [.ref (w.2.2 44)]) (st' := [P_z 0, .ref (w.2.2 44)]) P_i85_16 rfl (show P_aw _ _ _ 17 [.ref (w.2.2 44)] [P_z 0, .ref (w.2.2 44)] _ _ from ?_)
  refine P_aw_put P_i85_17 hw.2.2 (hw.s rfl) rfl rfl rfl (show P_aw _ _ _ 20 [.ref (w.2.2 44)] [] _ _ from ?_)
  refine P_aw_end P_i85_20 rfl rfl (fun _ => rfl) rfl ?_
  show P_aw _ _ _ 7 [.ref (w.2.2 0)] [] _ _
  refine P_aw_op (L' := [.ref (w.2.2 0)]) (st' := [.ref (w.2.2 0)]) P_i169_7 rfl (show P_aw _ _ _ 8 [.ref (w.2.2 0)] [.ref (w.2.2 0)] _ _ from ?_)
  refine P_aw_getR P_i169_8 (hw.2.1 0 (by decide)) (hw.s rfl) rfl rfl (show P_aw _ _ _ 11 [.ref (w.2.2 0)] [.ref (w.2.2 31)] _ _ from ?_)
  refine P_aw_call P_i169_11 rfl rfl (fun _ => rfl) rfl rfl rfl rfl (y2 := 2) (as := [.ref (w.2.2 31)]) (r0 := []) (P_inv_v (hw.2.1 31 (by decide)) (hw.s rfl) rfl rfl) (Nat.le_of_ble_eq_true rfl) (by decide) rfl (Nat.le_of_ble_eq_true rfl) (show P_aw _ _ _ 0 [.ref (w.2.2 31)] [] _ _ from ?_)
  refine P_aw_op (L' := [.ref (w.2.2 31)]) (st' := [.ref (w.2.2 31)]) P_i2_0 rfl (show P_aw _ _ _ 1 [.ref (w.2.2 31)] [.ref (w.2.2 31)] _ _ from ?_)
  refine P_aw_op (L' := [.ref (w.2.2 31)]) (st' := [P_z 0, .ref (w.2.2 31)]) P_i2_1 rfl (show P_aw _ _ _ 2 [.ref (w.2.2 31)] [P_z 0, .ref (w.2.2 31)] _ _ from ?_)
  refine P_aw_put P_i2_2 (hw.2.1 31 (by decide)) (hw.s rfl) rfl rfl rfl (show P_aw _ _ _ 5 [.ref (w.2.2 31)] [] _ _ from ?_)
  refine P_aw_end P_i2_5 rfl rfl (fun _ => rfl) rfl ?_
  show P_aw _ _ _ 14 [.ref (w.2.2 0)] [] _ _
  refine P_aw_end P_i169_14 rfl rfl (fun _ => rfl) rfl ?_
  show P_aw _ _ _ 12 [.ref (w.2.2 0), P_z 0] [] _ _
  refine P_aw_op (L' := [.ref (w.2.2 0), P_z 0]) (st' := [P_z 0]) P_i143_12 rfl (show P_aw _ _ _ 13 [.ref (w.2.2 0), P_z 0] [P_z 0] _ _ from ?_)
  refine P_aw_end P_i143_13 rfl rfl (fun _ => rfl) rfl ?_
  have e : ∀ a b, ¬ (a = 29 ∧ b = 5) → a ≠ 44 → ¬ (a = 31 ∧ b = 16) → ((P_u2 (P_u2 (P_u2 (P_u2 (P_u2 (P_u2 σ2 29 5 1) 44 0 0) 44 1 0) 44 2 0) 44 3 0) 31 16 0)) a b = σ2 a b := fun a b x y z => (P_u2_ne (by omega)).trans ((P_u2_ne (by omega)).trans ((P_u2_ne (by omega)).trans ((P_u2_ne (by omega)).trans ((P_u2_ne (by omega)).trans (P_u2_ne (by omega)))))); refine q _ ⟨A_V_cg (fun a b h => e a b (by omega) (by omega) (by omega)) hA2, A_X_cg (fun s a b => (h4 s a b).1.2.1) (fun a b h => e a b (by omega) (by omega) (by omega)) hX2, A_F_cg (fun a b h h' => e a b (by omega) (by omega) (by omega)) hF2, A_KL_cg (e 13 4 (by omega) (by omega) (by omega)) (fun a b h h' => e a b (by omega) (by omega) (by omega)) k2.2.2.2.2.2.1, fun j a b => ⟨(e 28 _ (by omega) (by omega) (by omega)).trans (k2.2.2.2.2.2.2.2.2.2.2.1 j a b), a, by show j ≤ 2; omega, fun q => q⟩, ?_, ?_, (e 13 5 (by omega) (by omega) (by omega)).trans k2.2.2.2.2.2.2.2.2.2.1, by omega, (P_u2_ne (by omega)).trans ((P_u2_ne (by omega)).trans ((P_u2_ne (by omega)).trans ((P_u2_ne (by omega)).trans ((P_u2_ne (by omega)).trans (P_u2_at))))), (e 29 7 (by omega) (by omega) (by omega)).trans k2.2.2.2.2.2.2.2.2.2.2.2.2⟩ (fun a b x y z u v1 v2 => (e a b (by omega) v1 v2).trans (hf2 a b x y z u)) (P_u2_at)
  · intro x hx; obtain ⟨y, hy, rfl⟩ := List.mem_map.mp hx; obtain ⟨⟨z1, z2, z3⟩, z4, z5⟩ := h7 y hy; refine ⟨?_, ⟨z2, z3⟩, ?_, by show 0 ≤ ns - 1 ∧ ns - 1 ≤ 2; omega⟩
    · rcases A_tk_c z4 with q1 | q1
      · exact ⟨q1.1, q1.2.1, q1.2.2.2.2.1, by have := q1.2.2.2.2.2; have := (h5 _ (by omega) q1.2.2.2.2.1).1.2; show (y.1 - 100) % 10 < 3; omega⟩
      · omega
    · rcases A_tk_c z5 with q1 | q1
      · exact Or.inl ⟨q1.1, q1.2.1, q1.2.2.2.2.1, by have := q1.2.2.2.2.2; have := (h5 _ (by omega) q1.2.2.2.2.1).1.2; show (y.2.2.1 - 100) % 10 < 3; omega⟩
      · exact Or.inr q1
  · intro x hx; obtain ⟨y, hy, rfl⟩ := List.mem_map.mp hx; exact ⟨(h7 y hy).2.1, (h7 y hy).2.2⟩
