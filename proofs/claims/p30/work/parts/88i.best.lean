/-! the law's own methods, written by wip/g1.py: 88i.best -/
theorem G_thn_cg {cV cV' pt pt' : Int → Int} {lv : Int} : ∀ (n : Nat) (i a : Int), (∀ j, i ≤ j → j < i + (n : Int) → cV j = cV' j ∧ pt j = pt' j) → A_thn cV pt lv n i a = A_thn cV' pt' lv n i a
  | 0, _, _, _ => rfl
  | n + 1, i, a, h => by
    have h1 := h i (by omega) (by omega)
    simp only [A_thn]
    rw [h1.1, h1.2]
    exact G_thn_cg n (i + 1) _ (fun j a b => h j (by omega) (by omega))
theorem G_ct_cg {rw rw' od : Int → Int} {th th' : Int → Int → Int} (ht : ∀ p g, th p g = th' p g) : ∀ (n : Nat) (p g c : Int), (∀ q, p ≤ q → q < p + (n : Int) → rw (od q) = rw' (od q)) → A_ct rw od th n p g c = A_ct rw' od th' n p g c
  | 0, _, _, _, _ => rfl
  | n + 1, p, g, c, h => by
    simp only [A_ct]
    rw [h p (by omega) (by omega), ht]
    exact G_ct_cg ht n (p + 1) _ _ (fun q a b => h q (by omega) (by omega))
theorem G_lows_lc {od : Int → Int} {cs : List A_cd} {i : Int} (h0 : 0 ≤ i) (h1 : i < (cs.length : Int)) : A_lc (A_lows od cs) i 3 = A_low od (A_lc cs i 0) (A_lc cs i 2) ∧ A_lc (A_lows od cs) i 0 = A_lc cs i 0 ∧ A_lc (A_lows od cs) i 1 = A_lc cs i 1 ∧ A_lc (A_lows od cs) i 2 = A_lc cs i 2 := by
  have hk : i.toNat < cs.length := by omega
  unfold A_lc A_lows
  rw [List.getD_eq_getElem?_getD, List.getD_eq_getElem?_getD, List.getElem?_map, List.getElem?_eq_getElem hk]
  exact ⟨rfl, rfl, rfl, rfl⟩
theorem G_lows_len {od : Int → Int} {cs : List A_cd} : (A_lows od cs).length = cs.length := List.length_map ..
/-- Grove's cost of an order is the class's -/
theorem G_cst {nn : Nat} {sn : Int → Int} {rT : Int → Nat} {cT : Int → Nat} {VV : Int → Int → Int → Int} {rw : Int → Int} {vr : Int → Int → Int} {cs : List A_cd} {nv s : Int} (hrw : ∀ s, 0 ≤ s → s < (nn : Int) → rw s = P_grw sn rT s) (hvr : ∀ c, P_gcol nn sn cT c → A_vt vr c = A_vt (P_gvr sn rT VV) c) (hok : ∀ x ∈ cs, P_gok nn sn cT x) (hn : 1 ≤ nn ∧ nn ≤ 3) (hs : A_isO (nn : Int) s) : (if nv = 1 then 0 else A_ct (P_grw sn rT) (A_od s) (G_th sn rT VV (A_lows (A_od s) cs)) nn 0 1 0) = A_cst rw vr nv (nn : Int) (cs.length : Int) (fun i => A_lc cs i 0) (fun i => A_lc cs i 1) (fun i => A_lc cs i 2) s := by
  unfold A_cst
  split
  · rfl
  · have hod := A_isO_od hs (by omega)
    refine (G_ct_cg (fun p g => ?_) nn 0 1 0 (fun q a b => ?_)).trans rfl
    · unfold G_th A_th
      rw [G_lows_len, Int.toNat_natCast]
      refine G_thn_cg _ _ _ (fun j a b => ?_)
      have hl := G_lows_lc (od := A_od s) (cs := cs) a (by omega)
      have hc := P_gok_c hok j a (by omega)
      refine ⟨hl.1, ?_⟩
      show A_part (P_gvr sn rT VV) (A_lc (A_lows (A_od s) cs) j 0) (A_lc (A_lows (A_od s) cs) j 1) (A_lc (A_lows (A_od s) cs) j 2) = A_part vr (A_lc cs j 0) (A_lc cs j 1) (A_lc cs j 2)
      rw [hl.2.1, hl.2.2.1, hl.2.2.2]
      unfold A_part
      rw [hvr _ hc.1]
      rcases hc.2.2.1 with e | e
      · rw [hvr _ e]
      · have h5 : 1000 ≤ A_lc cs j 2 := e.1
        have : ¬ A_lc cs j 2 ≤ 199 := by omega
        simp only [if_neg this]
    · have h := hod q (by omega) (by omega)
      exact (hrw _ h.1 (h.2.2 (by omega))).symm
def G_12 (j : Nat) : Prop := j = 12
theorem G_lows_lows {od od' : Int → Int} {cs : List A_cd} : A_lows od (A_lows od' cs) = A_lows od cs := by
  unfold A_lows
  rw [List.map_map]
  rfl
theorem G_O_mk {g : P_Gl} {τ : P_A} {G D nn : Nat} {s : Int} (hf : P_gf g τ G 12 D) (hD : g D = some (6, .inr (.inl nn))) (hn : 1 ≤ nn ∧ nn ≤ 3) (h0 : τ D 0 = A_od s 0) (h1 : 1 < nn → τ D 1 = A_od s 1) (h2 : 2 < nn → τ D 2 = A_od s 2) (hs : A_isO (nn : Int) s) : P_gO g τ G D nn (A_od s) := by
  have hod := A_isO_od hs (by omega)
  refine ⟨hf, hD, fun j a b => ⟨?_, (hod j a (by omega)).1, (hod j a (by omega)).2.2 b⟩, fun t a b => ?_⟩
  · rcases (by omega : j = 0 ∨ j = 1 ∨ j = 2) with rfl | rfl | rfl
    · exact h0
    · exact h1 (by omega)
    · exact h2 (by omega)
  · rcases hs with rfl | ⟨e, rfl⟩ | ⟨e, e2⟩
    · have e0 : A_od 0 0 = 0 := rfl
      have e1 : A_od 0 1 = 1 := rfl
      have e2 : A_od 0 2 = 2 := rfl
      rw [e0, e1, e2]; omega
    · have e0 : A_od 6 0 = 1 := rfl
      have e1 : A_od 6 1 = 0 := rfl
      rw [e0, e1]; omega
    · rcases e2 with rfl | rfl | rfl | rfl | rfl
      · have e0 : A_od 3 0 = 0 := rfl
        have e1 : A_od 3 1 = 2 := rfl
        have e2 : A_od 3 2 = 1 := rfl
        rw [e0, e1, e2]; omega
      · have e0 : A_od 6 0 = 1 := rfl
        have e1 : A_od 6 1 = 0 := rfl
        have e2 : A_od 6 2 = 2 := rfl
        rw [e0, e1, e2]; omega
      · have e0 : A_od 9 0 = 1 := rfl
        have e1 : A_od 9 1 = 2 := rfl
        have e2 : A_od 9 2 = 0 := rfl
        rw [e0, e1, e2]; omega
      · have e0 : A_od 12 0 = 2 := rfl
        have e1 : A_od 12 1 = 0 := rfl
        have e2 : A_od 12 2 = 1 := rfl
        rw [e0, e1, e2]; omega
      · have e0 : A_od 15 0 = 2 := rfl
        have e1 : A_od 15 1 = 1 := rfl
        have e2 : A_od 15 2 = 0 := rfl
        rw [e0, e1, e2]; omega
theorem g_bl1 {d : Nat} {w : P_Lw} {σ : P_A} {g : P_Gl} {N u : Nat} {Q : P_GQ} {G nn B D : Nat} {sn : Int → Int} {cT : Int → Nat} {ad : Int → Nat} {od : Int → Int} (hnn : 1 ≤ nn ∧ nn ≤ 3) {Le : Nat} {x1 code : Int} : ∀ (n : Nat) (τ : P_A) (cs : List A_cd) (A : List A_cd) (B2 : List A_cd) (i : Int), (cs = A ++ B2) → (i = ((A.length : Nat) : Int)) → (B2.length = n) → (P_gC g τ G B cs ad) → (∀ x ∈ cs, P_gok nn sn cT x) → (P_gO g τ G D nn od) → (∀ τ', G_fr G_R5 G_0 g τ g τ' → P_gC g τ' G B (A ++ B2.map (fun y => A_lvl y (A_lw od y))) ad → P_gw (d + 3) 204 246 [.ref G, .ref Le, P_zl x1, P_un, P_z ((nn : Nat) : Int), P_z code, P_un, P_un, .ref D, .ref B, P_z (cs.length : Int), P_z (cs.length : Int), P_un] [] w σ g τ' N u Q) → P_gw (d + 3) 204 216 [.ref G, .ref Le, P_zl x1, P_un, P_z ((nn : Nat) : Int), P_z code, P_un, P_un, .ref D, .ref B, P_z (cs.length : Int), P_z i, P_un] [] w σ g τ N u Q := by
  intro n
  induction n with
  | zero =>
    intro τ cs A B2 i hv0 hv1 hv2 hv3 hv4 hv5 q
    have hC := hv3
    have hok := hv4
    have hO := hv5
    have hcl := hC.2.2.1
    obtain rfl : B2 = [] := List.length_eq_zero_iff.mp hv2
    have hl : (cs.length : Int) = (A.length : Int) := by rw [hv0]; simp
    refine P_gw_op (L' := [.ref G, .ref Le, P_zl x1, P_un, P_z ((nn : Nat) : Int), P_z code, P_un, P_un, .ref D, .ref B, P_z (cs.length : Int), P_z i, P_un]) (st' := [P_z i]) P_i204_216 rfl (show P_gw _ _ 218 [.ref G, .ref Le, P_zl x1, P_un, P_z ((nn : Nat) : Int), P_z code, P_un, P_un, .ref D, .ref B, P_z (cs.length : Int), P_z i, P_un] [P_z i] _ _ _ _ _ _ _ from ?_)
    refine P_gw_op (L' := [.ref G, .ref Le, P_zl x1, P_un, P_z ((nn : Nat) : Int), P_z code, P_un, P_un, .ref D, .ref B, P_z (cs.length : Int), P_z i, P_un]) (st' := [P_z (cs.length : Int), P_z i]) P_i204_218 rfl (show P_gw _ _ 220 [.ref G, .ref Le, P_zl x1, P_un, P_z ((nn : Nat) : Int), P_z code, P_un, P_un, .ref D, .ref B, P_z (cs.length : Int), P_z i, P_un] [P_z (cs.length : Int), P_z i] _ _ _ _ _ _ _ from ?_)
    refine P_gw_ict P_i204_220 ⟨by omega, by omega⟩ ⟨by omega, by omega⟩ (P_ci_get (by omega)) (show P_gw _ _ 246 [.ref G, .ref Le, P_zl x1, P_un, P_z ((nn : Nat) : Int), P_z code, P_un, P_un, .ref D, .ref B, P_z (cs.length : Int), P_z i, P_un] [] _ _ _ _ _ _ _ from ?_)
    have e : i = (cs.length : Int) := (by omega)
    subst e
    exact q τ G_fr_rf (by rw [List.map_nil, ← hv0]; exact hC)
  | succ n ih =>
    intro τ cs A B2 i hv0 hv1 hv2 hv3 hv4 hv5 q
    have hC := hv3
    have hok := hv4
    have hO := hv5
    have hcl := hC.2.2.1
    obtain ⟨y, B2, rfl⟩ : ∃ y B', B2 = y :: B' := by
      cases B2 with
      | nil => exact absurd hv2 (by simp)
      | cons y B => exact ⟨y, B, rfl⟩
    have hl := A_len (A := A) (y := y) (B := B2)
    have hlB : (B2.length : Int) = (n : Int) := by have := Nat.succ.inj hv2; omega
    rw [← hv0] at hl
    have hy : ∀ f, A_lc cs i f = A_cf y f := fun f => by rw [hv0]; exact A_lc_mid hv1 f
    refine P_gw_op (L' := [.ref G, .ref Le, P_zl x1, P_un, P_z ((nn : Nat) : Int), P_z code, P_un, P_un, .ref D, .ref B, P_z (cs.length : Int), P_z i, P_un]) (st' := [P_z i]) P_i204_216 rfl (show P_gw _ _ 218 [.ref G, .ref Le, P_zl x1, P_un, P_z ((nn : Nat) : Int), P_z code, P_un, P_un, .ref D, .ref B, P_z (cs.length : Int), P_z i, P_un] [P_z i] _ _ _ _ _ _ _ from ?_)
    refine P_gw_op (L' := [.ref G, .ref Le, P_zl x1, P_un, P_z ((nn : Nat) : Int), P_z code, P_un, P_un, .ref D, .ref B, P_z (cs.length : Int), P_z i, P_un]) (st' := [P_z (cs.length : Int), P_z i]) P_i204_218 rfl (show P_gw _ _ 220 [.ref G, .ref Le, P_zl x1, P_un, P_z ((nn : Nat) : Int), P_z code, P_un, P_un, .ref D, .ref B, P_z (cs.length : Int), P_z i, P_un] [P_z (cs.length : Int), P_z i] _ _ _ _ _ _ _ from ?_)
    refine P_gw_icf P_i204_220 ⟨by omega, by omega⟩ ⟨by omega, by omega⟩ (P_ci_gef (by omega)) (show P_gw _ _ 223 [.ref G, .ref Le, P_zl x1, P_un, P_z ((nn : Nat) : Int), P_z code, P_un, P_un, .ref D, .ref B, P_z (cs.length : Int), P_z i, P_un] [] _ _ _ _ _ _ _ from ?_)
    refine P_gw_op (L' := [.ref G, .ref Le, P_zl x1, P_un, P_z ((nn : Nat) : Int), P_z code, P_un, P_un, .ref D, .ref B, P_z (cs.length : Int), P_z i, P_un]) (st' := [.ref B]) P_i204_223 rfl (show P_gw _ _ 225 [.ref G, .ref Le, P_zl x1, P_un, P_z ((nn : Nat) : Int), P_z code, P_un, P_un, .ref D, .ref B, P_z (cs.length : Int), P_z i, P_un] [.ref B] _ _ _ _ _ _ _ from ?_)
    refine P_gw_op (L' := [.ref G, .ref Le, P_zl x1, P_un, P_z ((nn : Nat) : Int), P_z code, P_un, P_un, .ref D, .ref B, P_z (cs.length : Int), P_z i, P_un]) (st' := [P_z i, .ref B]) P_i204_225 rfl (show P_gw _ _ 227 [.ref G, .ref Le, P_zl x1, P_un, P_z ((nn : Nat) : Int), P_z code, P_un, P_un, .ref D, .ref B, P_z (cs.length : Int), P_z i, P_un] [P_z i, .ref B] _ _ _ _ _ _ _ from ?_)
    refine P_gw_rld (b := (ad i)) P_i204_227 (hC.2.1) (by decide) (by omega) (by omega) (by omega) ((hC.2.2.2.1 i (by omega) (by omega)).1.1) (show P_gw _ _ 228 [.ref G, .ref Le, P_zl x1, P_un, P_z ((nn : Nat) : Int), P_z code, P_un, P_un, .ref D, .ref B, P_z (cs.length : Int), P_z i, P_un] [.ref (ad i)] _ _ _ _ _ _ _ from ?_)
    refine P_gw_op (L' := [.ref G, .ref Le, P_zl x1, P_un, P_z ((nn : Nat) : Int), P_z code, P_un, P_un, .ref D, .ref B, P_z (cs.length : Int), P_z i, .ref (ad i)]) (st' := []) P_i204_228 rfl (show P_gw _ _ 230 [.ref G, .ref Le, P_zl x1, P_un, P_z ((nn : Nat) : Int), P_z code, P_un, P_un, .ref D, .ref B, P_z (cs.length : Int), P_z i, .ref (ad i)] [] _ _ _ _ _ _ _ from ?_)
    refine P_gw_op (L' := [.ref G, .ref Le, P_zl x1, P_un, P_z ((nn : Nat) : Int), P_z code, P_un, P_un, .ref D, .ref B, P_z (cs.length : Int), P_z i, .ref (ad i)]) (st' := [.ref (ad i)]) P_i204_230 rfl (show P_gw _ _ 232 [.ref G, .ref Le, P_zl x1, P_un, P_z ((nn : Nat) : Int), P_z code, P_un, P_un, .ref D, .ref B, P_z (cs.length : Int), P_z i, .ref (ad i)] [.ref (ad i)] _ _ _ _ _ _ _ from ?_)
    refine P_gw_op (L' := [.ref G, .ref Le, P_zl x1, P_un, P_z ((nn : Nat) : Int), P_z code, P_un, P_un, .ref D, .ref B, P_z (cs.length : Int), P_z i, .ref (ad i)]) (st' := [P_z 3, .ref (ad i)]) P_i204_232 rfl (show P_gw _ _ 233 [.ref G, .ref Le, P_zl x1, P_un, P_z ((nn : Nat) : Int), P_z code, P_un, P_un, .ref D, .ref B, P_z (cs.length : Int), P_z i, .ref (ad i)] [P_z 3, .ref (ad i)] _ _ _ _ _ _ _ from ?_)
    refine P_gw_op (L' := [.ref G, .ref Le, P_zl x1, P_un, P_z ((nn : Nat) : Int), P_z code, P_un, P_un, .ref D, .ref B, P_z (cs.length : Int), P_z i, .ref (ad i)]) (st' := [.ref G, P_z 3, .ref (ad i)]) P_i204_233 rfl (show P_gw _ _ 234 [.ref G, .ref Le, P_zl x1, P_un, P_z ((nn : Nat) : Int), P_z code, P_un, P_un, .ref D, .ref B, P_z (cs.length : Int), P_z i, .ref (ad i)] [.ref G, P_z 3, .ref (ad i)] _ _ _ _ _ _ _ from ?_)
    refine P_gw_op (L' := [.ref G, .ref Le, P_zl x1, P_un, P_z ((nn : Nat) : Int), P_z code, P_un, P_un, .ref D, .ref B, P_z (cs.length : Int), P_z i, .ref (ad i)]) (st' := [.ref (ad i), .ref G, P_z 3, .ref (ad i)]) P_i204_234 rfl (show P_gw _ _ 236 [.ref G, .ref Le, P_zl x1, P_un, P_z ((nn : Nat) : Int), P_z code, P_un, P_un, .ref D, .ref B, P_z (cs.length : Int), P_z i, .ref (ad i)] [.ref (ad i), .ref G, P_z 3, .ref (ad i)] _ _ _ _ _ _ _ from ?_)
    have hp1 := A_low_rg (od := od) (l := (A_lc cs i 0)) (r := (A_lc cs i 2))
    refine P_gw_call P_i204_236 rfl rfl (fun _ => rfl) rfl rfl rfl rfl (y2 := 195) (as := [.ref G, .ref (ad i)]) (r0 := [P_z 3, .ref (ad i)]) (P_ginv_v (hC.1.1) rfl rfl) (Nat.le_of_ble_eq_true rfl) (by decide) rfl (Nat.le_of_ble_eq_true rfl) (g_low hO (hC.2.2.2.1 i (by omega) (by omega)).1.2 ((hC.2.2.2.1 i (by omega) (by omega)).2 0 (by omega)) ((hC.2.2.2.1 i (by omega) (by omega)).2 1 (by omega)) ((hC.2.2.2.1 i (by omega) (by omega)).2 2 (by omega)) hnn (P_gok_l hok i (by omega) (by omega)).1 (P_gok_l hok i (by omega) (by omega)).2 ?_)
    show P_gw _ _ 239 [.ref G, .ref Le, P_zl x1, P_un, P_z ((nn : Nat) : Int), P_z code, P_un, P_un, .ref D, .ref B, P_z (cs.length : Int), P_z i, .ref (ad i)] [P_z (A_low od (A_lc cs i 0) (A_lc cs i 2)), P_z 3, .ref (ad i)] _ _ _ _ _ _ _
    refine P_gw_ast P_i204_239 ((hC.2.2.2.1 i (by omega) (by omega)).1.2) (by omega) (by omega) (by omega) (show P_gw _ _ 240 [.ref G, .ref Le, P_zl x1, P_un, P_z ((nn : Nat) : Int), P_z code, P_un, P_un, .ref D, .ref B, P_z (cs.length : Int), P_z i, .ref (ad i)] [] _ _ _ _ _ _ _ from ?_)
    refine P_gw_op (L' := [.ref G, .ref Le, P_zl x1, P_un, P_z ((nn : Nat) : Int), P_z code, P_un, P_un, .ref D, .ref B, P_z (cs.length : Int), P_z (i + 1), .ref (ad i)]) (st' := []) P_i204_240 (P_o_iinc rfl) (show P_gw _ _ 243 [.ref G, .ref Le, P_zl x1, P_un, P_z ((nn : Nat) : Int), P_z code, P_un, P_un, .ref D, .ref B, P_z (cs.length : Int), P_z (i + 1), .ref (ad i)] [] _ _ _ _ _ _ _ from ?_)
    refine P_gw_goto P_i204_243 (show P_gw _ _ 216 [.ref G, .ref Le, P_zl x1, P_un, P_z ((nn : Nat) : Int), P_z code, P_un, P_un, .ref D, .ref B, P_z (cs.length : Int), P_z (i + 1), P_un] [] _ _ _ _ _ _ _ from ?_)
    have hlr : 0 ≤ A_lw od y ∧ A_lw od y ≤ 2 := A_low_rg
    have hyr := A_ok_rg (P_gok_ok (hok y (by rw [hv0]; exact A_mem)))
    have hval : A_low od (A_lc cs i 0) (A_lc cs i 2) = A_cf (A_lvl y (A_lw od y)) 3 := by rw [hy, hy]; rfl
    rw [hval]
    have hfr : G_fr G_R5 G_0 g τ g (P_u2 τ (ad i) 3 (A_cf (A_lvl y (A_lw od y)) 3)) := G_fr_r (hC.2.2.2.1 i (by omega) (by omega)).1.2 rfl
    have hC1 : P_gC g (P_u2 τ (ad i) 3 (A_cf (A_lvl y (A_lw od y)) 3)) G B (A ++ A_lvl y (A_lw od y) :: B2) ad := G_C_set (hv0 ▸ hC) hv1
    have hlen : (A ++ A_lvl y (A_lw od y) :: B2).length = cs.length := by rw [hv0]; simp only [List.length_append, List.length_cons]
    rw [← hlen]
    exact ih _ (A ++ A_lvl y (A_lw od y) :: B2) (A ++ [A_lvl y (A_lw od y)]) B2 (i + 1) (by simp) (by rw [hv1]; simp) (by omega) hC1 (fun x hx => by rcases List.mem_append.mp hx with e | e; exact hok x (by rw [hv0]; exact List.mem_append_left _ e); rcases List.mem_cons.mp e with e | e; exact e ▸ G_ok_lvl (hok y (by rw [hv0]; exact A_mem)) (by omega); exact hok x (by rw [hv0]; exact List.mem_append_right _ (List.mem_cons_of_mem _ e))) (P_gO_fr hfr ⟨G_nR5 _ (by omega), G_nR5 _ (by omega)⟩ id hO) (fun τ' b1 b2 => by rw [hlen]; exact q τ' (G_fr_tr hfr b1) (by rw [List.map_cons, A_app]; exact b2))

def G_co (nv : Int) (sn : Int → Int) (rT : Int → Nat) (VV : Int → Int → Int → Int) (cs : List A_cd) (od : Int → Int) (nn : Nat) : Int := if nv = 1 then 0 else A_ct (P_grw sn rT) od (G_th sn rT VV cs) nn 0 1 0
theorem g_b246 {d : Nat} {w : P_Lw} {σ : P_A} {g : P_Gl} {τ : P_A} {N u : Nat} {Q : P_GQ} {G : Nat} {T nt : Nat} {tt : Int → Nat} {rT : Int → Nat} {tr : Int → Int → Nat} {cT : Int → Nat} {VV : Int → Int → Int → Int} (hT : P_gT g τ G T nt tt rT tr cT VV) {S nn : Nat} {sn : Int → Int} (hS : P_gS g τ G S nn nt sn) {D : Nat} {od : Int → Int} (hO : P_gO g τ G D nn od) {B : Nat} {cs : List A_cd} {ad : Int → Nat} (hC : P_gC g τ G B cs ad) (hok : ∀ x ∈ cs, P_gok nn sn cT x) {nv : Int} (h13 : τ G 13 = nv) (hnv : 0 ≤ nv ∧ nv ≤ 1) {Le : Nat} {x1 code : Int} (hx1 : -1 ≤ x1 ∧ x1 ≤ 3000) (hcd : 0 ≤ code ∧ code ≤ 26) (hco : 0 ≤ (G_co nv sn rT VV cs od nn) ∧ (G_co nv sn rT VV cs od nn) ≤ 3000) (q1 : x1 = -1 ∨ (G_co nv sn rT VV cs od nn) < x1 → P_gw (d + 7) 204 22 [.ref G, .ref D, P_zl (G_co nv sn rT VV cs od nn), P_un, P_z ((nn : Nat) : Int), P_z (code + 1), P_un, P_un, P_un, P_un, P_un, P_un, P_un] [] w σ g τ N u Q) (q : ¬ (x1 = -1 ∨ (G_co nv sn rT VV cs od nn) < x1) → P_gw (d + 7) 204 22 [.ref G, .ref Le, P_zl x1, P_un, P_z ((nn : Nat) : Int), P_z (code + 1), P_un, P_un, P_un, P_un, P_un, P_un, P_un] [] w σ g τ N u Q) : P_gw (d + 7) 204 246 [.ref G, .ref Le, P_zl x1, P_un, P_z ((nn : Nat) : Int), P_z code, P_un, P_un, .ref D, .ref B, P_z (cs.length : Int), P_z (cs.length : Int), P_un] [] w σ g τ N u Q := by
  have hcl := hC.2.2.1
  have hn1 := hS.2.2.1
  have hn2 := hT.2.2.1
  have hgr := G_gs_rg hT hS hO cs
  refine P_gw_op (L' := [.ref G, .ref Le, P_zl x1, P_un, P_z ((nn : Nat) : Int), P_z code, P_un, P_un, .ref D, .ref B, P_z (cs.length : Int), P_z (cs.length : Int), P_un]) (st' := [P_zl x1]) P_i204_246 rfl (show P_gw _ _ 247 [.ref G, .ref Le, P_zl x1, P_un, P_z ((nn : Nat) : Int), P_z code, P_un, P_un, .ref D, .ref B, P_z (cs.length : Int), P_z (cs.length : Int), P_un] [P_zl x1] _ _ _ _ _ _ _ from ?_)
  refine P_gw_op (L' := [.ref G, .ref Le, P_zl x1, P_un, P_z ((nn : Nat) : Int), P_z code, P_un, P_un, .ref D, .ref B, P_z (cs.length : Int), P_z (cs.length : Int), P_un]) (st' := [P_zl 0, P_zl x1]) P_i204_247 rfl (show P_gw _ _ 248 [.ref G, .ref Le, P_zl x1, P_un, P_z ((nn : Nat) : Int), P_z code, P_un, P_un, .ref D, .ref B, P_z (cs.length : Int), P_z (cs.length : Int), P_un] [P_zl 0, P_zl x1] _ _ _ _ _ _ _ from ?_)
  rcases Int.lt_or_le x1 0 with hc1 | hc1
  · refine P_gw_lct P_i204_248 P_i204_249 ⟨by omega, by omega⟩ ⟨by decide, by decide⟩ (P_ci_ltt (by omega)) (show P_gw _ _ 264 [.ref G, .ref Le, P_zl x1, P_un, P_z ((nn : Nat) : Int), P_z code, P_un, P_un, .ref D, .ref B, P_z (cs.length : Int), P_z (cs.length : Int), P_un] [] _ _ _ _ _ _ _ from ?_)
    refine P_gw_op (L' := [.ref G, .ref Le, P_zl x1, P_un, P_z ((nn : Nat) : Int), P_z code, P_un, P_un, .ref D, .ref B, P_z (cs.length : Int), P_z (cs.length : Int), P_un]) (st' := [.ref G]) P_i204_264 rfl (show P_gw _ _ 265 [.ref G, .ref Le, P_zl x1, P_un, P_z ((nn : Nat) : Int), P_z code, P_un, P_un, .ref D, .ref B, P_z (cs.length : Int), P_z (cs.length : Int), P_un] [.ref G] _ _ _ _ _ _ _ from ?_)
    refine P_gw_call P_i204_265 rfl rfl (fun _ => rfl) rfl rfl rfl rfl (y2 := 199) (as := [.ref G]) (r0 := []) (P_ginv_v (hC.1.1) rfl rfl) (Nat.le_of_ble_eq_true rfl) (by decide) rfl (Nat.le_of_ble_eq_true rfl) (g_cost hT hS hO hC hok h13 hnv ?_)
    show P_gw _ _ 268 [.ref G, .ref Le, P_zl x1, P_un, P_z ((nn : Nat) : Int), P_z code, P_un, P_un, .ref D, .ref B, P_z (cs.length : Int), P_z (cs.length : Int), P_un] [P_zl (G_co nv sn rT VV cs od nn)] _ _ _ _ _ _ _
    refine P_gw_op (L' := [.ref G, .ref Le, P_zl (G_co nv sn rT VV cs od nn), P_un, P_z ((nn : Nat) : Int), P_z code, P_un, P_un, .ref D, .ref B, P_z (cs.length : Int), P_z (cs.length : Int), P_un]) (st' := []) P_i204_268 rfl (show P_gw _ _ 269 [.ref G, .ref Le, P_zl (G_co nv sn rT VV cs od nn), P_un, P_z ((nn : Nat) : Int), P_z code, P_un, P_un, .ref D, .ref B, P_z (cs.length : Int), P_z (cs.length : Int), P_un] [] _ _ _ _ _ _ _ from ?_)
    refine P_gw_op (L' := [.ref G, .ref Le, P_zl (G_co nv sn rT VV cs od nn), P_un, P_z ((nn : Nat) : Int), P_z code, P_un, P_un, .ref D, .ref B, P_z (cs.length : Int), P_z (cs.length : Int), P_un]) (st' := [.ref D]) P_i204_269 rfl (show P_gw _ _ 271 [.ref G, .ref Le, P_zl (G_co nv sn rT VV cs od nn), P_un, P_z ((nn : Nat) : Int), P_z code, P_un, P_un, .ref D, .ref B, P_z (cs.length : Int), P_z (cs.length : Int), P_un] [.ref D] _ _ _ _ _ _ _ from ?_)
    refine P_gw_op (L' := [.ref G, .ref D, P_zl (G_co nv sn rT VV cs od nn), P_un, P_z ((nn : Nat) : Int), P_z code, P_un, P_un, .ref D, .ref B, P_z (cs.length : Int), P_z (cs.length : Int), P_un]) (st' := []) P_i204_271 rfl (show P_gw _ _ 272 [.ref G, .ref D, P_zl (G_co nv sn rT VV cs od nn), P_un, P_z ((nn : Nat) : Int), P_z code, P_un, P_un, .ref D, .ref B, P_z (cs.length : Int), P_z (cs.length : Int), P_un] [] _ _ _ _ _ _ _ from ?_)
    refine P_gw_op (L' := [.ref G, .ref D, P_zl (G_co nv sn rT VV cs od nn), P_un, P_z ((nn : Nat) : Int), P_z (code + 1), P_un, P_un, .ref D, .ref B, P_z (cs.length : Int), P_z (cs.length : Int), P_un]) (st' := []) P_i204_272 (P_o_iinc rfl) (show P_gw _ _ 275 [.ref G, .ref D, P_zl (G_co nv sn rT VV cs od nn), P_un, P_z ((nn : Nat) : Int), P_z (code + 1), P_un, P_un, .ref D, .ref B, P_z (cs.length : Int), P_z (cs.length : Int), P_un] [] _ _ _ _ _ _ _ from ?_)
    refine P_gw_goto P_i204_275 (show P_gw _ _ 22 [.ref G, .ref D, P_zl (G_co nv sn rT VV cs od nn), P_un, P_z ((nn : Nat) : Int), P_z (code + 1), P_un, P_un, P_un, P_un, P_un, P_un, P_un] [] _ _ _ _ _ _ _ from ?_)
    exact q1 (by omega)
  · refine P_gw_lcf P_i204_248 P_i204_249 ⟨by omega, by omega⟩ ⟨by decide, by decide⟩ (P_ci_ltf (by omega)) (show P_gw _ _ 252 [.ref G, .ref Le, P_zl x1, P_un, P_z ((nn : Nat) : Int), P_z code, P_un, P_un, .ref D, .ref B, P_z (cs.length : Int), P_z (cs.length : Int), P_un] [] _ _ _ _ _ _ _ from ?_)
    refine P_gw_op (L' := [.ref G, .ref Le, P_zl x1, P_un, P_z ((nn : Nat) : Int), P_z code, P_un, P_un, .ref D, .ref B, P_z (cs.length : Int), P_z (cs.length : Int), P_un]) (st' := [.ref G]) P_i204_252 rfl (show P_gw _ _ 253 [.ref G, .ref Le, P_zl x1, P_un, P_z ((nn : Nat) : Int), P_z code, P_un, P_un, .ref D, .ref B, P_z (cs.length : Int), P_z (cs.length : Int), P_un] [.ref G] _ _ _ _ _ _ _ from ?_)
    refine P_gw_call P_i204_253 rfl rfl (fun _ => rfl) rfl rfl rfl rfl (y2 := 199) (as := [.ref G]) (r0 := []) (P_ginv_v (hC.1.1) rfl rfl) (Nat.le_of_ble_eq_true rfl) (by decide) rfl (Nat.le_of_ble_eq_true rfl) (g_cost hT hS hO hC hok h13 hnv ?_)
    show P_gw _ _ 256 [.ref G, .ref Le, P_zl x1, P_un, P_z ((nn : Nat) : Int), P_z code, P_un, P_un, .ref D, .ref B, P_z (cs.length : Int), P_z (cs.length : Int), P_un] [P_zl (G_co nv sn rT VV cs od nn)] _ _ _ _ _ _ _
    refine P_gw_op (L' := [.ref G, .ref Le, P_zl x1, P_un, P_z ((nn : Nat) : Int), P_z code, P_un, P_un, .ref D, .ref B, P_z (cs.length : Int), P_z (cs.length : Int), P_un]) (st' := [P_zl x1, P_zl (G_co nv sn rT VV cs od nn)]) P_i204_256 rfl (show P_gw _ _ 257 [.ref G, .ref Le, P_zl x1, P_un, P_z ((nn : Nat) : Int), P_z code, P_un, P_un, .ref D, .ref B, P_z (cs.length : Int), P_z (cs.length : Int), P_un] [P_zl x1, P_zl (G_co nv sn rT VV cs od nn)] _ _ _ _ _ _ _ from ?_)
    rcases Int.lt_or_le (G_co nv sn rT VV cs od nn) x1 with hc2 | hc2
    · refine P_gw_lct P_i204_257 P_i204_258 ⟨by omega, by omega⟩ ⟨by omega, by omega⟩ (P_ci_ltt (by omega)) (show P_gw _ _ 264 [.ref G, .ref Le, P_zl x1, P_un, P_z ((nn : Nat) : Int), P_z code, P_un, P_un, .ref D, .ref B, P_z (cs.length : Int), P_z (cs.length : Int), P_un] [] _ _ _ _ _ _ _ from ?_)
      refine P_gw_op (L' := [.ref G, .ref Le, P_zl x1, P_un, P_z ((nn : Nat) : Int), P_z code, P_un, P_un, .ref D, .ref B, P_z (cs.length : Int), P_z (cs.length : Int), P_un]) (st' := [.ref G]) P_i204_264 rfl (show P_gw _ _ 265 [.ref G, .ref Le, P_zl x1, P_un, P_z ((nn : Nat) : Int), P_z code, P_un, P_un, .ref D, .ref B, P_z (cs.length : Int), P_z (cs.length : Int), P_un] [.ref G] _ _ _ _ _ _ _ from ?_)
      refine P_gw_call P_i204_265 rfl rfl (fun _ => rfl) rfl rfl rfl rfl (y2 := 199) (as := [.ref G]) (r0 := []) (P_ginv_v (hC.1.1) rfl rfl) (Nat.le_of_ble_eq_true rfl) (by decide) rfl (Nat.le_of_ble_eq_true rfl) (g_cost hT hS hO hC hok h13 hnv ?_)
      show P_gw _ _ 268 [.ref G, .ref Le, P_zl x1, P_un, P_z ((nn : Nat) : Int), P_z code, P_un, P_un, .ref D, .ref B, P_z (cs.length : Int), P_z (cs.length : Int), P_un] [P_zl (G_co nv sn rT VV cs od nn)] _ _ _ _ _ _ _
      refine P_gw_op (L' := [.ref G, .ref Le, P_zl (G_co nv sn rT VV cs od nn), P_un, P_z ((nn : Nat) : Int), P_z code, P_un, P_un, .ref D, .ref B, P_z (cs.length : Int), P_z (cs.length : Int), P_un]) (st' := []) P_i204_268 rfl (show P_gw _ _ 269 [.ref G, .ref Le, P_zl (G_co nv sn rT VV cs od nn), P_un, P_z ((nn : Nat) : Int), P_z code, P_un, P_un, .ref D, .ref B, P_z (cs.length : Int), P_z (cs.length : Int), P_un] [] _ _ _ _ _ _ _ from ?_)
      refine P_gw_op (L' := [.ref G, .ref Le, P_zl (G_co nv sn rT VV cs od nn), P_un, P_z ((nn : Nat) : Int), P_z code, P_un, P_un, .ref D, .ref B, P_z (cs.length : Int), P_z (cs.length : Int), P_un]) (st' := [.ref D]) P_i204_269 rfl (show P_gw _ _ 271 [.ref G, .ref Le, P_zl (G_co nv sn rT VV cs od nn), P_un, P_z ((nn : Nat) : Int), P_z code, P_un, P_un, .ref D, .ref B, P_z (cs.length : Int), P_z (cs.length : Int), P_un] [.ref D] _ _ _ _ _ _ _ from ?_)
      refine P_gw_op (L' := [.ref G, .ref D, P_zl (G_co nv sn rT VV cs od nn), P_un, P_z ((nn : Nat) : Int), P_z code, P_un, P_un, .ref D, .ref B, P_z (cs.length : Int), P_z (cs.length : Int), P_un]) (st' := []) P_i204_271 rfl (show P_gw _ _ 272 [.ref G, .ref D, P_zl (G_co nv sn rT VV cs od nn), P_un, P_z ((nn : Nat) : Int), P_z code, P_un, P_un, .ref D, .ref B, P_z (cs.length : Int), P_z (cs.length : Int), P_un] [] _ _ _ _ _ _ _ from ?_)
      refine P_gw_op (L' := [.ref G, .ref D, P_zl (G_co nv sn rT VV cs od nn), P_un, P_z ((nn : Nat) : Int), P_z (code + 1), P_un, P_un, .ref D, .ref B, P_z (cs.length : Int), P_z (cs.length : Int), P_un]) (st' := []) P_i204_272 (P_o_iinc rfl) (show P_gw _ _ 275 [.ref G, .ref D, P_zl (G_co nv sn rT VV cs od nn), P_un, P_z ((nn : Nat) : Int), P_z (code + 1), P_un, P_un, .ref D, .ref B, P_z (cs.length : Int), P_z (cs.length : Int), P_un] [] _ _ _ _ _ _ _ from ?_)
      refine P_gw_goto P_i204_275 (show P_gw _ _ 22 [.ref G, .ref D, P_zl (G_co nv sn rT VV cs od nn), P_un, P_z ((nn : Nat) : Int), P_z (code + 1), P_un, P_un, P_un, P_un, P_un, P_un, P_un] [] _ _ _ _ _ _ _ from ?_)
      exact q1 (by omega)
    · refine P_gw_lcf P_i204_257 P_i204_258 ⟨by omega, by omega⟩ ⟨by omega, by omega⟩ (P_ci_ltf (by omega)) (show P_gw _ _ 261 [.ref G, .ref Le, P_zl x1, P_un, P_z ((nn : Nat) : Int), P_z code, P_un, P_un, .ref D, .ref B, P_z (cs.length : Int), P_z (cs.length : Int), P_un] [] _ _ _ _ _ _ _ from ?_)
      refine P_gw_goto P_i204_261 (show P_gw _ _ 272 [.ref G, .ref Le, P_zl x1, P_un, P_z ((nn : Nat) : Int), P_z code, P_un, P_un, .ref D, .ref B, P_z (cs.length : Int), P_z (cs.length : Int), P_un] [] _ _ _ _ _ _ _ from ?_)
      refine P_gw_op (L' := [.ref G, .ref Le, P_zl x1, P_un, P_z ((nn : Nat) : Int), P_z (code + 1), P_un, P_un, .ref D, .ref B, P_z (cs.length : Int), P_z (cs.length : Int), P_un]) (st' := []) P_i204_272 (P_o_iinc rfl) (show P_gw _ _ 275 [.ref G, .ref Le, P_zl x1, P_un, P_z ((nn : Nat) : Int), P_z (code + 1), P_un, P_un, .ref D, .ref B, P_z (cs.length : Int), P_z (cs.length : Int), P_un] [] _ _ _ _ _ _ _ from ?_)
      refine P_gw_goto P_i204_275 (show P_gw _ _ 22 [.ref G, .ref Le, P_zl x1, P_un, P_z ((nn : Nat) : Int), P_z (code + 1), P_un, P_un, P_un, P_un, P_un, P_un, P_un] [] _ _ _ _ _ _ _ from ?_)
      exact q (by omega)
