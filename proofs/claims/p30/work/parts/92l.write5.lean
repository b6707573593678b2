/-! the law's own methods, written by wip/g1.py: 92l.write5 -/
theorem G_C_new {g : P_Gl} {τ : P_A} {G N : Nat} {s : Nat → Int} {ad : Int → Nat} (hG : g G = some (1, .inl (11, [true, true, false, true, true, true, true, true, false, false, false, true, true, false, false, false]))) (hGN : G < N) : P_gC (P_gN g N 7 (.inr (.inr (200, (0 : Int).toNat)))) (P_u2 (P_tN τ N s) G 11 (N : Int)) G N [] ad :=
  ⟨⟨(P_gN_ne (by omega)).trans hG, P_u2_at⟩, P_gN_at, by simp, fun i a b => by simp at b; omega, fun i j a b => by simp at b; omega⟩
/-- a row beside the conditions is written -/
theorem P_gC_w {g : P_Gl} {τ : P_A} {G B r0 f : Nat} {cs : List A_cd} {ad : Int → Nat} {v : Int} (hr : g r0 = some (5, .inr (.inl 4))) (hne : ∀ i, 0 ≤ i → i < (cs.length : Int) → ad i ≠ r0) (hC : P_gC g τ G B cs ad) : P_gC g (P_u2 τ r0 f v) G B cs ad := by
  obtain ⟨h1, h2, h3, h4, h5⟩ := hC
  have hG : G ≠ r0 := fun e => by rw [← e] at hr; cases hr.symm.trans h1.1
  have hB : B ≠ r0 := fun e => by rw [← e] at hr; cases hr.symm.trans h2
  exact ⟨⟨h1.1, (P_u2_ne (fun q => hG q.1)).trans h1.2⟩, h2, h3, fun i a b => ⟨⟨(P_u2_ne (fun q => hB q.1)).trans (h4 i a b).1.1, (h4 i a b).1.2⟩, fun f hf => (P_u2_ne (fun q => hne i a b q.1)).trans ((h4 i a b).2 f hf)⟩, h5⟩
/-- a condition more, its row made before -/
theorem G_C_add2 {g g2 : P_Gl} {τ τ2 : P_A} {G B N r0 : Nat} {cs : List A_cd} {y : A_cd} {ad : Int → Nat} (hC : P_gC g τ G B cs ad) (hlt : ∀ a r sh, g a = some (r, sh) → 2 ≤ a ∧ a < N) (h12 : cs.length < 12) (hne : ∀ i, 0 ≤ i → i < (cs.length : Int) → ad i ≠ r0) (hr : g r0 = some (5, .inr (.inl 4))) (hv : ∀ f, f < 4 → τ r0 f = A_cf y f) (hx : P_xt N g τ g2 τ2) (hN : g2 N = some (7, .inr (.inr (200, cs.length + 1)))) (h1 : ∀ j : Nat, (j : Int) < (cs.length : Int) → τ2 N j = τ B j) (h2 : τ2 N (cs.length : Int).toNat = ((r0 : Nat) : Int)) : P_gC g2 (P_u2 τ2 G 11 ((N : Nat) : Int)) G N (cs ++ [y]) (fun j => if j < (cs.length : Int) then ad j else r0) := by
  have hl : (cs ++ [y]).length = cs.length + 1 := by simp
  have hG := (hlt _ _ _ hC.1.1).2
  have hrl := (hlt _ _ _ hr).2
  have hrG : r0 ≠ G := fun e => by rw [e] at hr; cases hr.symm.trans hC.1.1
  refine ⟨⟨(hx G hG).1.trans hC.1.1, P_u2_at⟩, by rw [hl]; exact hN, by omega, fun i a b => ?_, fun i j a b a2 b2 e => ?_⟩
  · rw [hl] at b
    by_cases q : i < (cs.length : Int)
    · simp only [if_pos q]
      obtain ⟨⟨k1, k2⟩, k3⟩ := hC.2.2.2.1 i a q
      have hd := (hlt _ _ _ k2).2
      have hdG : ad i ≠ G := fun e => by rw [e] at k2; cases k2.symm.trans hC.1.1
      refine ⟨⟨(P_u2_ne (by omega)).trans ((h1 i.toNat (by omega)).trans k1), (hx _ hd).1.trans k2⟩, fun f hf => (P_u2_ne (by omega)).trans (((hx _ hd).2 f).trans ((k3 f hf).trans ?_))⟩
      rw [G_lc_lt q a]
    · simp only [if_neg q]
      have ei : i = (cs.length : Int) := by omega
      subst ei
      refine ⟨⟨(P_u2_ne (by omega)).trans h2, (hx _ hrl).1.trans hr⟩, fun f hf => (P_u2_ne (by omega)).trans (((hx _ hrl).2 f).trans ((hv f hf).trans ?_))⟩
      rw [A_lc_mid rfl]
  · rw [hl] at b b2
    simp only at e
    split at e <;> split at e
    · exact hC.2.2.2.2 i j a (by omega) a2 (by omega) e
    · next q _ => exact absurd e (hne i a q)
    · next q => exact absurd e.symm (hne j a2 q)
    · omega
theorem G_ok_mk {nn : Nat} {sn : Int → Int} {cT : Int → Nat} {a b c e : Int} (h1 : P_gcol nn sn cT a) (h2 : 9 ≤ b ∧ b ≤ 11) (h3 : P_gcol nn sn cT c ∨ 1000 ≤ c ∧ c ≤ 1999) (h4 : 0 ≤ e ∧ e ≤ 2) : P_gok nn sn cT (a, b, c, e) := ⟨h1, h2, h3, h4⟩
theorem G_cts_add : ∀ (C : List A_cd) (y : A_cd) (o : Int), A_cts (C ++ [y]) o = A_cts C o ++ [if C.length = 0 then o else 3, y.1, y.2.1, y.2.2.1]
  | [], y, o => rfl
  | x :: C, y, o => by
    simp only [List.cons_append, A_cts]
    rw [G_cts_add C y 3]
    simp
theorem wr_Ca {d : Nat} {w : P_Lw} {σ : P_A} {g : P_Gl} {τ : P_A} {N u : Nat} {Q : P_GQ} (hw : P_Cw w) {G T : Nat} {tt : Int → Nat} {rT : Int → Nat} {tr : Int → Int → Nat} {cT : Int → Nat} {VV : Int → Int → Int → Int} {L : Nat} {S nn : Nat} {sn : Int → Int} {I m : Nat} {gi : Int → Int} {σ0 : P_A} {ig : Int} {X : List Int} {K : Nat} {tk : List Int} {dr : Int} (hig : 0 ≤ ig ∧ ig ≤ 1) {my k : Int} (hmy : 0 ≤ my ∧ my ≤ 5) {B : Nat} {C : List A_cd} {ad : Int → Nat} (hb : G_Wb w σ g τ G T tt rT tr cT VV L K tk dr) (hS : P_gS g τ G S nn 3 sn) (hIp : P_gRw g τ G 6 8 I m gi) (hC : P_gC g τ G B C ad) (hk : k = (C.length : Int)) (hkm : k < my) (hdr : 0 ≤ dr ∧ dr ≤ 899990) (q : ∀ g' τ' N' u' r0 a b c dr', G_Wb w σ g' τ' G T tt rT tr cT VV L K tk dr' → P_gS g' τ' G S nn 3 sn → P_gRw g' τ' G 6 8 I m gi → P_gC g' τ' G B C ad → (∀ i, 0 ≤ i → i < (C.length : Int) → ad i ≠ r0) → g' r0 = some (5, .inr (.inl 4)) → τ' r0 0 = a → τ' r0 1 = b → τ' r0 2 = c → τ' r0 3 = (nn : Int) - 1 → P_gcol nn sn cT a → (9 ≤ b ∧ b ≤ 11) → (P_gcol nn sn cT c ∨ 1000 ≤ c ∧ c ≤ 1999) → u' ≤ u + 50 → dr ≤ dr' → dr' ≤ dr + 10 → P_gw (d + 12) 192 369 [.ref G, P_z ig, P_z my, P_z k, P_un, P_un] [.ref r0] w σ g' τ' N' u' Q) : P_gw (d + 12) 192 294 [.ref G, P_z ig, P_z my, P_z k, P_un, P_un] [] w σ g τ N u Q := by
  refine P_gw_lts (fun hlt => ?_)
  obtain ⟨hT, hL, hK, hct, hTK, h0, hs1, hdr2⟩ := id hb
  have hlG := hlt _ _ _ hT.1.1
  have hn1 := hS.2.2.1
  refine P_gw_op (L' := [.ref G, P_z ig, P_z my, P_z k, P_un, P_un]) (st' := [P_z k]) P_i192_294 rfl (show P_gw _ _ 295 [.ref G, P_z ig, P_z my, P_z k, P_un, P_un] [P_z k] _ _ _ _ _ _ _ from ?_)
  refine P_gw_op (L' := [.ref G, P_z ig, P_z my, P_z k, P_un, P_un]) (st' := [P_z my, P_z k]) P_i192_295 rfl (show P_gw _ _ 296 [.ref G, P_z ig, P_z my, P_z k, P_un, P_un] [P_z my, P_z k] _ _ _ _ _ _ _ from ?_)
  refine P_gw_icf P_i192_296 ⟨by omega, by omega⟩ ⟨by omega, by omega⟩ (P_ci_gef (by omega)) (show P_gw _ _ 299 [.ref G, P_z ig, P_z my, P_z k, P_un, P_un] [] _ _ _ _ _ _ _ from ?_)
  refine P_gw_op (L' := [.ref G, P_z ig, P_z my, P_z k, P_un, P_un]) (st' := [P_z 4]) P_i192_299 rfl (show P_gw _ _ 300 [.ref G, P_z ig, P_z my, P_z k, P_un, P_un] [P_z 4] _ _ _ _ _ _ _ from ?_)
  refine P_gw_newi (5) P_i192_300 (by omega) (by omega) (show P_gw _ _ 302 [.ref G, P_z ig, P_z my, P_z k, P_un, P_un] [.ref N] _ _ _ _ _ _ _ from ?_)
  have hX : P_xt N g τ (P_gN g N 5 (.inr (.inl (4 : Int).toNat))) (P_tN τ N (fun _ => 0)) := fun x hx => ⟨P_gN_ne (by omega), fun j => P_tN_ne (by omega)⟩
  have hf : G_fr G_0 G_2 g τ (P_gN g N 5 (.inr (.inl (4 : Int).toNat))) (P_tN τ N (fun _ => 0)) := G_fr_xt hlt hX
  have hb := G_Wb_fr hf (fun r h => h.elim) (fun j h => Or.inl h) ((P_tN_ne (by omega)).trans hdr2) hb
  have hlne : ∀ i, 0 ≤ i → i < (C.length : Int) → ad i ≠ N := fun i a b => by have := (hlt _ _ _ (hC.2.2.2.1 i a b).1.2).2; omega
  have hS := P_gS_fr hf ⟨id, id⟩ (G_n2 (by omega)) hS
  have hIp := P_gRw_fr hf ⟨id, id⟩ (by omega) (G_n2 (by omega)) hIp
  have hC := P_gC_fr hf ⟨id, id, id⟩ (G_n2 (by omega)) hC
  refine P_gw_rr (L := fun r0 => [.ref G, P_z ig, P_z my, P_z k, P_un, P_un]) (st := fun r0 => [.ref r0]) (Pr := fun g' τ' N' u' r0 => G_Wb w σ g' τ' G T tt rT tr cT VV L K tk dr ∧ P_gS g' τ' G S nn 3 sn ∧ P_gRw g' τ' G 6 8 I m gi ∧ P_gC g' τ' G B C ad ∧ (∀ i, 0 ≤ i → i < (C.length : Int) → ad i ≠ r0) ∧ g' r0 = some (5, .inr (.inl 4)) ∧ u' ≤ u + 6) N ⟨hb, hS, hIp, hC, hlne, P_gN_at, by omega⟩ (fun g τ N u r0 hre => ?_)
  obtain ⟨hb, hS, hIp, hC, hne, hr, hub⟩ := hre
  show P_gw _ _ 302 [.ref G, P_z ig, P_z my, P_z k, P_un, P_un] [.ref r0] _ _ _ _ _ _ _
  refine P_gw_lts (fun hlt => ?_)
  obtain ⟨hT, hL, hK, hct, hTK, h0, hs1, hdr2⟩ := id hb
  have hlG := hlt _ _ _ hT.1.1
  have hr0G : r0 ≠ G := fun e => by rw [e] at hr; cases hr.symm.trans hT.1.1
  refine P_gw_op (L' := [.ref G, P_z ig, P_z my, P_z k, P_un, P_un]) (st' := [.ref r0, .ref r0]) P_i192_302 rfl (show P_gw _ _ 303 [.ref G, P_z ig, P_z my, P_z k, P_un, P_un] [.ref r0, .ref r0] _ _ _ _ _ _ _ from ?_)
  refine P_gw_op (L' := [.ref G, P_z ig, P_z my, P_z k, P_un, P_un]) (st' := [P_z 0, .ref r0, .ref r0]) P_i192_303 rfl (show P_gw _ _ 304 [.ref G, P_z ig, P_z my, P_z k, P_un, P_un] [P_z 0, .ref r0, .ref r0] _ _ _ _ _ _ _ from ?_)
  refine P_gw_op (L' := [.ref G, P_z ig, P_z my, P_z k, P_un, P_un]) (st' := [.ref G, P_z 0, .ref r0, .ref r0]) P_i192_304 rfl (show P_gw _ _ 305 [.ref G, P_z ig, P_z my, P_z k, P_un, P_un] [.ref G, P_z 0, .ref r0, .ref r0] _ _ _ _ _ _ _ from ?_)
  refine P_gw_call P_i192_305 rfl rfl (fun _ => rfl) rfl rfl rfl rfl (y2 := 191) (as := [.ref G]) (r0 := [P_z 0, .ref r0, .ref r0]) (P_ginv_v (hT.1.1) rfl rfl) (Nat.le_of_ble_eq_true rfl) (by decide) rfl (Nat.le_of_ble_eq_true rfl) (g_col hb hS (by omega) (fun c1 τ dr hc1 hf hdq h2 => ?_))
  have hr := (hf _ _ _ hr).1
  have hS := P_gS_fr hf ⟨id, id⟩ (G_n2 (by omega)) hS
  have hIp := P_gRw_fr hf ⟨id, id⟩ (by omega) (G_n2 (by omega)) hIp
  have hC := P_gC_fr hf ⟨id, id, id⟩ (G_n2 (by omega)) hC
  have hb := G_Wb_fr hf (fun r h => h.elim) (fun j h => Or.inl h) h2 hb
  obtain ⟨hT, hL, hK, hct, hTK, h0, hs1, hdr2⟩ := id hb
  have hc1a := (P_gcol_v hc1).1
  show P_gw _ _ 308 [.ref G, P_z ig, P_z my, P_z k, P_un, P_un] [P_z c1, P_z 0, .ref r0, .ref r0] _ _ _ _ _ _ _
  refine P_gw_ast P_i192_308 (hr) (by omega) (by omega) (by omega) (show P_gw _ _ 309 [.ref G, P_z ig, P_z my, P_z k, P_un, P_un] [.ref r0] _ _ _ _ _ _ _ from ?_)
  have hf : G_fr G_R5 G_2 g τ g (P_u2 τ r0 0 c1) := G_fr_r hr rfl
  have hb := G_Wb_fr hf (fun r h => Or.inl h) (fun j h => Or.inl h) ((P_u2_ne (by omega)).trans hdr2) hb
  have hS := P_gS_fr hf ⟨by unfold G_R5; omega, by unfold G_R5; omega⟩ (G_n2 (by omega)) hS
  have hIp := P_gRw_fr hf ⟨by unfold G_R5; omega, by unfold G_R5; omega⟩ (by omega) (G_n2 (by omega)) hIp
  have hC := P_gC_w (f := 0) (v := c1) hr hne hC
  refine P_gw_re (Pr := fun g' τ' N' u' => G_Wb w σ g' τ' G T tt rT tr cT VV L K tk dr ∧ P_gS g' τ' G S nn 3 sn ∧ P_gRw g' τ' G 6 8 I m gi ∧ P_gC g' τ' G B C ad ∧ (∀ i, 0 ≤ i → i < (C.length : Int) → ad i ≠ r0) ∧ g' r0 = some (5, .inr (.inl 4)) ∧ τ' r0 0 = c1 ∧ u' ≤ u) ⟨hb, hS, hIp, hC, hne, hr, P_u2_at, by omega⟩ (fun g τ N u hre => ?_)
  obtain ⟨hb, hS, hIp, hC, hne, hr, hq0, hub⟩ := hre
  refine P_gw_lts (fun hlt => ?_)
  obtain ⟨hT, hL, hK, hct, hTK, h0, hs1, hdr2⟩ := id hb
  have hlG := hlt _ _ _ hT.1.1
  refine P_gw_op (L' := [.ref G, P_z ig, P_z my, P_z k, P_un, P_un]) (st' := [.ref r0, .ref r0]) P_i192_309 rfl (show P_gw _ _ 310 [.ref G, P_z ig, P_z my, P_z k, P_un, P_un] [.ref r0, .ref r0] _ _ _ _ _ _ _ from ?_)
  refine P_gw_op (L' := [.ref G, P_z ig, P_z my, P_z k, P_un, P_un]) (st' := [P_z 1, .ref r0, .ref r0]) P_i192_310 rfl (show P_gw _ _ 311 [.ref G, P_z ig, P_z my, P_z k, P_un, P_un] [P_z 1, .ref r0, .ref r0] _ _ _ _ _ _ _ from ?_)
  refine P_gw_op (L' := [.ref G, P_z ig, P_z my, P_z k, P_un, P_un]) (st' := [P_z 9, P_z 1, .ref r0, .ref r0]) P_i192_311 (P_o_bi (by decide)) (show P_gw _ _ 313 [.ref G, P_z ig, P_z my, P_z k, P_un, P_un] [P_z 9, P_z 1, .ref r0, .ref r0] _ _ _ _ _ _ _ from ?_)
  refine P_gw_op (L' := [.ref G, P_z ig, P_z my, P_z k, P_un, P_un]) (st' := [.ref G, P_z 9, P_z 1, .ref r0, .ref r0]) P_i192_313 rfl (show P_gw _ _ 314 [.ref G, P_z ig, P_z my, P_z k, P_un, P_un] [.ref G, P_z 9, P_z 1, .ref r0, .ref r0] _ _ _ _ _ _ _ from ?_)
  refine P_gw_op (L' := [.ref G, P_z ig, P_z my, P_z k, P_un, P_un]) (st' := [P_z 2, .ref G, P_z 9, P_z 1, .ref r0, .ref r0]) P_i192_314 rfl (show P_gw _ _ 315 [.ref G, P_z ig, P_z my, P_z k, P_un, P_un] [P_z 2, .ref G, P_z 9, P_z 1, .ref r0, .ref r0] _ _ _ _ _ _ _ from ?_)
  refine P_gw_call P_i192_315 rfl rfl (fun _ => rfl) rfl rfl rfl rfl (y2 := 182) (as := [.ref G, P_z 2]) (r0 := [P_z 9, P_z 1, .ref r0, .ref r0]) (P_ginv_v (hT.1.1) rfl rfl) (Nat.le_of_ble_eq_true rfl) (by decide) rfl (Nat.le_of_ble_eq_true rfl) (g_drw hT.1.1 hs1 hdr2 (by omega) (by omega) (fun v2 τ dr hv2a hv2b hf hdq h2 => ?_))
  have hq0 := ((hf _ _ _ hr).2 0 (fun q => by omega) id).trans hq0
  have hr := (hf _ _ _ hr).1
  have hS := P_gS_fr hf ⟨id, id⟩ (G_n2 (by omega)) hS
  have hIp := P_gRw_fr hf ⟨id, id⟩ (by omega) (G_n2 (by omega)) hIp
  have hC := P_gC_fr hf ⟨id, id, id⟩ (G_n2 (by omega)) hC
  have hb := G_Wb_fr hf (fun r h => h.elim) (fun j h => Or.inl h) h2 hb
  obtain ⟨hT, hL, hK, hct, hTK, h0, hs1, hdr2⟩ := id hb
  show P_gw _ _ 318 [.ref G, P_z ig, P_z my, P_z k, P_un, P_un] [P_z v2, P_z 9, P_z 1, .ref r0, .ref r0] _ _ _ _ _ _ _
  by_cases hc3 : v2 = 0
  · refine P_gw_izf P_i192_318 ⟨by omega, by omega⟩ (P_ci_nef (by omega)) (show P_gw _ _ 321 [.ref G, P_z ig, P_z my, P_z k, P_un, P_un] [P_z 9, P_z 1, .ref r0, .ref r0] _ _ _ _ _ _ _ from ?_)
    refine P_gw_op (L' := [.ref G, P_z ig, P_z my, P_z k, P_un, P_un]) (st' := [P_z 0, P_z 9, P_z 1, .ref r0, .ref r0]) P_i192_321 rfl (show P_gw _ _ 322 [.ref G, P_z ig, P_z my, P_z k, P_un, P_un] [P_z 0, P_z 9, P_z 1, .ref r0, .ref r0] _ _ _ _ _ _ _ from ?_)
    refine P_gw_goto P_i192_322 (show P_gw _ _ 330 [.ref G, P_z ig, P_z my, P_z k, P_un, P_un] [P_z 0, P_z 9, P_z 1, .ref r0, .ref r0] _ _ _ _ _ _ _ from ?_)
    refine P_gw_op (L' := [.ref G, P_z ig, P_z my, P_z k, P_un, P_un]) (st' := [P_z 9, P_z 1, .ref r0, .ref r0]) P_i192_330 P_o_iadd (show P_gw _ _ 331 [.ref G, P_z ig, P_z my, P_z k, P_un, P_un] [P_z 9, P_z 1, .ref r0, .ref r0] _ _ _ _ _ _ _ from ?_)
    refine P_gw_ast P_i192_331 (hr) (by omega) (by omega) (by omega) (show P_gw _ _ 332 [.ref G, P_z ig, P_z my, P_z k, P_un, P_un] [.ref r0] _ _ _ _ _ _ _ from ?_)
    have hf : G_fr G_R5 G_2 g τ g (P_u2 τ r0 1 9) := G_fr_r hr rfl
    have hb := G_Wb_fr hf (fun r h => Or.inl h) (fun j h => Or.inl h) ((P_u2_ne (by omega)).trans hdr2) hb
    have hS := P_gS_fr hf ⟨by unfold G_R5; omega, by unfold G_R5; omega⟩ (G_n2 (by omega)) hS
    have hIp := P_gRw_fr hf ⟨by unfold G_R5; omega, by unfold G_R5; omega⟩ (by omega) (G_n2 (by omega)) hIp
    have hC := P_gC_w (f := 1) (v := 9) hr hne hC
    refine P_gw_re (Pr := fun g' τ' N' u' => G_Wb w σ g' τ' G T tt rT tr cT VV L K tk dr ∧ P_gS g' τ' G S nn 3 sn ∧ P_gRw g' τ' G 6 8 I m gi ∧ P_gC g' τ' G B C ad ∧ (∀ i, 0 ≤ i → i < (C.length : Int) → ad i ≠ r0) ∧ g' r0 = some (5, .inr (.inl 4)) ∧ τ' r0 0 = c1 ∧ τ' r0 1 = 9 ∧ u' ≤ u) ⟨hb, hS, hIp, hC, hne, hr, (P_u2_ne (by omega)).trans hq0, P_u2_at, by omega⟩ (fun g τ N u hre => ?_)
    obtain ⟨hb, hS, hIp, hC, hne, hr, hq0, hq1, hub⟩ := hre
    refine P_gw_lts (fun hlt => ?_)
    obtain ⟨hT, hL, hK, hct, hTK, h0, hs1, hdr2⟩ := id hb
    have hlG := hlt _ _ _ hT.1.1
    refine P_gw_op (L' := [.ref G, P_z ig, P_z my, P_z k, P_un, P_un]) (st' := [.ref r0, .ref r0]) P_i192_332 rfl (show P_gw _ _ 333 [.ref G, P_z ig, P_z my, P_z k, P_un, P_un] [.ref r0, .ref r0] _ _ _ _ _ _ _ from ?_)
    refine P_gw_op (L' := [.ref G, P_z ig, P_z my, P_z k, P_un, P_un]) (st' := [P_z 2, .ref r0, .ref r0]) P_i192_333 rfl (show P_gw _ _ 334 [.ref G, P_z ig, P_z my, P_z k, P_un, P_un] [P_z 2, .ref r0, .ref r0] _ _ _ _ _ _ _ from ?_)
    refine P_gw_op (L' := [.ref G, P_z ig, P_z my, P_z k, P_un, P_un]) (st' := [.ref G, P_z 2, .ref r0, .ref r0]) P_i192_334 rfl (show P_gw _ _ 335 [.ref G, P_z ig, P_z my, P_z k, P_un, P_un] [.ref G, P_z 2, .ref r0, .ref r0] _ _ _ _ _ _ _ from ?_)
    refine P_gw_op (L' := [.ref G, P_z ig, P_z my, P_z k, P_un, P_un]) (st' := [P_z 2, .ref G, P_z 2, .ref r0, .ref r0]) P_i192_335 rfl (show P_gw _ _ 336 [.ref G, P_z ig, P_z my, P_z k, P_un, P_un] [P_z 2, .ref G, P_z 2, .ref r0, .ref r0] _ _ _ _ _ _ _ from ?_)
    refine P_gw_call P_i192_336 rfl rfl (fun _ => rfl) rfl rfl rfl rfl (y2 := 182) (as := [.ref G, P_z 2]) (r0 := [P_z 2, .ref r0, .ref r0]) (P_ginv_v (hT.1.1) rfl rfl) (Nat.le_of_ble_eq_true rfl) (by decide) rfl (Nat.le_of_ble_eq_true rfl) (g_drw hT.1.1 hs1 hdr2 (by omega) (by omega) (fun v4 τ dr hv4a hv4b hf hdq h2 => ?_))
    have hq0 := ((hf _ _ _ hr).2 0 (fun q => by omega) id).trans hq0
    have hq1 := ((hf _ _ _ hr).2 1 (fun q => by omega) id).trans hq1
    have hr := (hf _ _ _ hr).1
    have hS := P_gS_fr hf ⟨id, id⟩ (G_n2 (by omega)) hS
    have hIp := P_gRw_fr hf ⟨id, id⟩ (by omega) (G_n2 (by omega)) hIp
    have hC := P_gC_fr hf ⟨id, id, id⟩ (G_n2 (by omega)) hC
    have hb := G_Wb_fr hf (fun r h => h.elim) (fun j h => Or.inl h) h2 hb
    obtain ⟨hT, hL, hK, hct, hTK, h0, hs1, hdr2⟩ := id hb
    show P_gw _ _ 339 [.ref G, P_z ig, P_z my, P_z k, P_un, P_un] [P_z v4, P_z 2, .ref r0, .ref r0] _ _ _ _ _ _ _
    by_cases hc5 : v4 = 0
    · refine P_gw_izf P_i192_339 ⟨by omega, by omega⟩ (P_ci_nef (by omega)) (show P_gw _ _ 342 [.ref G, P_z ig, P_z my, P_z k, P_un, P_un] [P_z 2, .ref r0, .ref r0] _ _ _ _ _ _ _ from ?_)
      refine P_gw_op (L' := [.ref G, P_z ig, P_z my, P_z k, P_un, P_un]) (st' := [.ref G, P_z 2, .ref r0, .ref r0]) P_i192_342 rfl (show P_gw _ _ 343 [.ref G, P_z ig, P_z my, P_z k, P_un, P_un] [.ref G, P_z 2, .ref r0, .ref r0] _ _ _ _ _ _ _ from ?_)
      refine P_gw_call P_i192_343 rfl rfl (fun _ => rfl) rfl rfl rfl rfl (y2 := 191) (as := [.ref G]) (r0 := [P_z 2, .ref r0, .ref r0]) (P_ginv_v (hT.1.1) rfl rfl) (Nat.le_of_ble_eq_true rfl) (by decide) rfl (Nat.le_of_ble_eq_true rfl) (g_col hb hS (by omega) (fun c6 τ dr hc6 hf hdq h2 => ?_))
      have hq0 := ((hf _ _ _ hr).2 0 (fun q => by omega) id).trans hq0
      have hq1 := ((hf _ _ _ hr).2 1 (fun q => by omega) id).trans hq1
      have hr := (hf _ _ _ hr).1
      have hS := P_gS_fr hf ⟨id, id⟩ (G_n2 (by omega)) hS
      have hIp := P_gRw_fr hf ⟨id, id⟩ (by omega) (G_n2 (by omega)) hIp
      have hC := P_gC_fr hf ⟨id, id, id⟩ (G_n2 (by omega)) hC
      have hb := G_Wb_fr hf (fun r h => h.elim) (fun j h => Or.inl h) h2 hb
      obtain ⟨hT, hL, hK, hct, hTK, h0, hs1, hdr2⟩ := id hb
      have hc6a := (P_gcol_v hc6).1
      show P_gw _ _ 346 [.ref G, P_z ig, P_z my, P_z k, P_un, P_un] [P_z c6, P_z 2, .ref r0, .ref r0] _ _ _ _ _ _ _
      refine P_gw_goto P_i192_346 (show P_gw _ _ 358 [.ref G, P_z ig, P_z my, P_z k, P_un, P_un] [P_z c6, P_z 2, .ref r0, .ref r0] _ _ _ _ _ _ _ from ?_)
      refine P_gw_ast P_i192_358 (hr) (by omega) (by omega) (by omega) (show P_gw _ _ 359 [.ref G, P_z ig, P_z my, P_z k, P_un, P_un] [.ref r0] _ _ _ _ _ _ _ from ?_)
      have hf : G_fr G_R5 G_2 g τ g (P_u2 τ r0 2 c6) := G_fr_r hr rfl
      have hb := G_Wb_fr hf (fun r h => Or.inl h) (fun j h => Or.inl h) ((P_u2_ne (by omega)).trans hdr2) hb
      have hS := P_gS_fr hf ⟨by unfold G_R5; omega, by unfold G_R5; omega⟩ (G_n2 (by omega)) hS
      have hIp := P_gRw_fr hf ⟨by unfold G_R5; omega, by unfold G_R5; omega⟩ (by omega) (G_n2 (by omega)) hIp
      have hC := P_gC_w (f := 2) (v := c6) hr hne hC
      refine P_gw_re (Pr := fun g' τ' N' u' => G_Wb w σ g' τ' G T tt rT tr cT VV L K tk dr ∧ P_gS g' τ' G S nn 3 sn ∧ P_gRw g' τ' G 6 8 I m gi ∧ P_gC g' τ' G B C ad ∧ (∀ i, 0 ≤ i → i < (C.length : Int) → ad i ≠ r0) ∧ g' r0 = some (5, .inr (.inl 4)) ∧ τ' r0 0 = c1 ∧ τ' r0 1 = 9 ∧ τ' r0 2 = c6 ∧ u' ≤ u) ⟨hb, hS, hIp, hC, hne, hr, (P_u2_ne (by omega)).trans hq0, (P_u2_ne (by omega)).trans hq1, P_u2_at, by omega⟩ (fun g τ N u hre => ?_)
      obtain ⟨hb, hS, hIp, hC, hne, hr, hq0, hq1, hq2, hub⟩ := hre
      refine P_gw_lts (fun hlt => ?_)
      obtain ⟨hT, hL, hK, hct, hTK, h0, hs1, hdr2⟩ := id hb
      have hlG := hlt _ _ _ hT.1.1
      refine P_gw_op (L' := [.ref G, P_z ig, P_z my, P_z k, P_un, P_un]) (st' := [.ref r0, .ref r0]) P_i192_359 rfl (show P_gw _ _ 360 [.ref G, P_z ig, P_z my, P_z k, P_un, P_un] [.ref r0, .ref r0] _ _ _ _ _ _ _ from ?_)
      refine P_gw_op (L' := [.ref G, P_z ig, P_z my, P_z k, P_un, P_un]) (st' := [P_z 3, .ref r0, .ref r0]) P_i192_360 rfl (show P_gw _ _ 361 [.ref G, P_z ig, P_z my, P_z k, P_un, P_un] [P_z 3, .ref r0, .ref r0] _ _ _ _ _ _ _ from ?_)
      refine P_gw_op (L' := [.ref G, P_z ig, P_z my, P_z k, P_un, P_un]) (st' := [.ref G, P_z 3, .ref r0, .ref r0]) P_i192_361 rfl (show P_gw _ _ 362 [.ref G, P_z ig, P_z my, P_z k, P_un, P_un] [.ref G, P_z 3, .ref r0, .ref r0] _ _ _ _ _ _ _ from ?_)
      refine P_gw_getR (P_i192_362) (hT.1.1) rfl rfl (hS.1.2) (show P_gw _ _ 365 [.ref G, P_z ig, P_z my, P_z k, P_un, P_un] [.ref S, P_z 3, .ref r0, .ref r0] _ _ _ _ _ _ _ from ?_)
      refine P_gw_alen P_i192_365 (hS.2.1) (show P_gw _ _ 366 [.ref G, P_z ig, P_z my, P_z k, P_un, P_un] [P_z ((nn : Nat) : Int), P_z 3, .ref r0, .ref r0] _ _ _ _ _ _ _ from ?_)
      refine P_gw_op (L' := [.ref G, P_z ig, P_z my, P_z k, P_un, P_un]) (st' := [P_z 1, P_z ((nn : Nat) : Int), P_z 3, .ref r0, .ref r0]) P_i192_366 rfl (show P_gw _ _ 367 [.ref G, P_z ig, P_z my, P_z k, P_un, P_un] [P_z 1, P_z ((nn : Nat) : Int), P_z 3, .ref r0, .ref r0] _ _ _ _ _ _ _ from ?_)
      refine P_gw_op (L' := [.ref G, P_z ig, P_z my, P_z k, P_un, P_un]) (st' := [P_z (((nn : Nat) : Int) - 1), P_z 3, .ref r0, .ref r0]) P_i192_367 P_o_isub (show P_gw _ _ 368 [.ref G, P_z ig, P_z my, P_z k, P_un, P_un] [P_z (((nn : Nat) : Int) - 1), P_z 3, .ref r0, .ref r0] _ _ _ _ _ _ _ from ?_)
      refine P_gw_ast P_i192_368 (hr) (by omega) (by omega) (by omega) (show P_gw _ _ 369 [.ref G, P_z ig, P_z my, P_z k, P_un, P_un] [.ref r0] _ _ _ _ _ _ _ from ?_)
      have hf : G_fr G_R5 G_2 g τ g (P_u2 τ r0 3 (((nn : Nat) : Int) - 1)) := G_fr_r hr rfl
      have hb := G_Wb_fr hf (fun r h => Or.inl h) (fun j h => Or.inl h) ((P_u2_ne (by omega)).trans hdr2) hb
      have hS := P_gS_fr hf ⟨by unfold G_R5; omega, by unfold G_R5; omega⟩ (G_n2 (by omega)) hS
      have hIp := P_gRw_fr hf ⟨by unfold G_R5; omega, by unfold G_R5; omega⟩ (by omega) (G_n2 (by omega)) hIp
      have hC := P_gC_w (f := 3) (v := (((nn : Nat) : Int) - 1)) hr hne hC
      exact q g _ _ _ r0 c1 9 c6 dr hb hS hIp hC hne hr ((P_u2_ne (by omega)).trans hq0) ((P_u2_ne (by omega)).trans hq1) ((P_u2_ne (by omega)).trans hq2) P_u2_at hc1 (by omega) (Or.inl hc6) (by omega) (by omega) (by omega)
    · refine P_gw_izt P_i192_339 ⟨by omega, by omega⟩ (P_ci_net (by omega)) (show P_gw _ _ 349 [.ref G, P_z ig, P_z my, P_z k, P_un, P_un] [P_z 2, .ref r0, .ref r0] _ _ _ _ _ _ _ from ?_)
      refine P_gw_op (L' := [.ref G, P_z ig, P_z my, P_z k, P_un, P_un]) (st' := [P_z 1000, P_z 2, .ref r0, .ref r0]) P_i192_349 (P_o_si (by decide)) (show P_gw _ _ 352 [.ref G, P_z ig, P_z my, P_z k, P_un, P_un] [P_z 1000, P_z 2, .ref r0, .ref r0] _ _ _ _ _ _ _ from ?_)
      refine P_gw_op (L' := [.ref G, P_z ig, P_z my, P_z k, P_un, P_un]) (st' := [.ref G, P_z 1000, P_z 2, .ref r0, .ref r0]) P_i192_352 rfl (show P_gw _ _ 353 [.ref G, P_z ig, P_z my, P_z k, P_un, P_un] [.ref G, P_z 1000, P_z 2, .ref r0, .ref r0] _ _ _ _ _ _ _ from ?_)
      refine P_gw_op (L' := [.ref G, P_z ig, P_z my, P_z k, P_un, P_un]) (st' := [P_z 3, .ref G, P_z 1000, P_z 2, .ref r0, .ref r0]) P_i192_353 rfl (show P_gw _ _ 354 [.ref G, P_z ig, P_z my, P_z k, P_un, P_un] [P_z 3, .ref G, P_z 1000, P_z 2, .ref r0, .ref r0] _ _ _ _ _ _ _ from ?_)
      refine P_gw_call P_i192_354 rfl rfl (fun _ => rfl) rfl rfl rfl rfl (y2 := 182) (as := [.ref G, P_z 3]) (r0 := [P_z 1000, P_z 2, .ref r0, .ref r0]) (P_ginv_v (hT.1.1) rfl rfl) (Nat.le_of_ble_eq_true rfl) (by decide) rfl (Nat.le_of_ble_eq_true rfl) (g_drw hT.1.1 hs1 hdr2 (by omega) (by omega) (fun v6 τ dr hv6a hv6b hf hdq h2 => ?_))
      have hq0 := ((hf _ _ _ hr).2 0 (fun q => by omega) id).trans hq0
      have hq1 := ((hf _ _ _ hr).2 1 (fun q => by omega) id).trans hq1
      have hr := (hf _ _ _ hr).1
      have hS := P_gS_fr hf ⟨id, id⟩ (G_n2 (by omega)) hS
      have hIp := P_gRw_fr hf ⟨id, id⟩ (by omega) (G_n2 (by omega)) hIp
      have hC := P_gC_fr hf ⟨id, id, id⟩ (G_n2 (by omega)) hC
      have hb := G_Wb_fr hf (fun r h => h.elim) (fun j h => Or.inl h) h2 hb
      obtain ⟨hT, hL, hK, hct, hTK, h0, hs1, hdr2⟩ := id hb
      show P_gw _ _ 357 [.ref G, P_z ig, P_z my, P_z k, P_un, P_un] [P_z v6, P_z 1000, P_z 2, .ref r0, .ref r0] _ _ _ _ _ _ _
      refine P_gw_op (L' := [.ref G, P_z ig, P_z my, P_z k, P_un, P_un]) (st' := [P_z (1000 + v6), P_z 2, .ref r0, .ref r0]) P_i192_357 P_o_iadd (show P_gw _ _ 358 [.ref G, P_z ig, P_z my, P_z k, P_un, P_un] [P_z (1000 + v6), P_z 2, .ref r0, .ref r0] _ _ _ _ _ _ _ from ?_)
      refine P_gw_ast P_i192_358 (hr) (by omega) (by omega) (by omega) (show P_gw _ _ 359 [.ref G, P_z ig, P_z my, P_z k, P_un, P_un] [.ref r0] _ _ _ _ _ _ _ from ?_)
      have hf : G_fr G_R5 G_2 g τ g (P_u2 τ r0 2 (1000 + v6)) := G_fr_r hr rfl
      have hb := G_Wb_fr hf (fun r h => Or.inl h) (fun j h => Or.inl h) ((P_u2_ne (by omega)).trans hdr2) hb
      have hS := P_gS_fr hf ⟨by unfold G_R5; omega, by unfold G_R5; omega⟩ (G_n2 (by omega)) hS
      have hIp := P_gRw_fr hf ⟨by unfold G_R5; omega, by unfold G_R5; omega⟩ (by omega) (G_n2 (by omega)) hIp
      have hC := P_gC_w (f := 2) (v := (1000 + v6)) hr hne hC
      refine P_gw_re (Pr := fun g' τ' N' u' => G_Wb w σ g' τ' G T tt rT tr cT VV L K tk dr ∧ P_gS g' τ' G S nn 3 sn ∧ P_gRw g' τ' G 6 8 I m gi ∧ P_gC g' τ' G B C ad ∧ (∀ i, 0 ≤ i → i < (C.length : Int) → ad i ≠ r0) ∧ g' r0 = some (5, .inr (.inl 4)) ∧ τ' r0 0 = c1 ∧ τ' r0 1 = 9 ∧ τ' r0 2 = (1000 + v6) ∧ u' ≤ u) ⟨hb, hS, hIp, hC, hne, hr, (P_u2_ne (by omega)).trans hq0, (P_u2_ne (by omega)).trans hq1, P_u2_at, by omega⟩ (fun g τ N u hre => ?_)
      obtain ⟨hb, hS, hIp, hC, hne, hr, hq0, hq1, hq2, hub⟩ := hre
      refine P_gw_lts (fun hlt => ?_)
      obtain ⟨hT, hL, hK, hct, hTK, h0, hs1, hdr2⟩ := id hb
      have hlG := hlt _ _ _ hT.1.1
      refine P_gw_op (L' := [.ref G, P_z ig, P_z my, P_z k, P_un, P_un]) (st' := [.ref r0, .ref r0]) P_i192_359 rfl (show P_gw _ _ 360 [.ref G, P_z ig, P_z my, P_z k, P_un, P_un] [.ref r0, .ref r0] _ _ _ _ _ _ _ from ?_)
      refine P_gw_op (L' := [.ref G, P_z ig, P_z my, P_z k, P_un, P_un]) (st' := [P_z 3, .ref r0, .ref r0]) P_i192_360 rfl (show P_gw _ _ 361 [.ref G, P_z ig, P_z my, P_z k, P_un, P_un] [P_z 3, .ref r0, .ref r0] _ _ _ _ _ _ _ from ?_)
      refine P_gw_op (L' := [.ref G, P_z ig, P_z my, P_z k, P_un, P_un]) (st' := [.ref G, P_z 3, .ref r0, .ref r0]) P_i192_361 rfl (show P_gw _ _ 362 [.ref G, P_z ig, P_z my, P_z k, P_un, P_un] [.ref G, P_z 3, .ref r0, .ref r0] _ _ _ _ _ _ _ from ?_)
      refine P_gw_getR (P_i192_362) (hT.1.1) rfl rfl (hS.1.2) (show P_gw _ _ 365 [.ref G, P_z ig, P_z my, P_z k, P_un, P_un] [.ref S, P_z 3, .ref r0, .ref r0] _ _ _ _ _ _ _ from ?_)
      refine P_gw_alen P_i192_365 (hS.2.1) (show P_gw _ _ 366 [.ref G, P_z ig, P_z my, P_z k, P_un, P_un] [P_z ((nn : Nat) : Int), P_z 3, .ref r0, .ref r0] _ _ _ _ _ _ _ from ?_)
      refine P_gw_op (L' := [.ref G, P_z ig, P_z my, P_z k, P_un, P_un]) (st' := [P_z 1, P_z ((nn : Nat) : Int), P_z 3, .ref r0, .ref r0]) P_i192_366 rfl (show P_gw _ _ 367 [.ref G, P_z ig, P_z my, P_z k, P_un, P_un] [P_z 1, P_z ((nn : Nat) : Int), P_z 3, .ref r0, .ref r0] _ _ _ _ _ _ _ from ?_)
      refine P_gw_op (L' := [.ref G, P_z ig, P_z my, P_z k, P_un, P_un]) (st' := [P_z (((nn : Nat) : Int) - 1), P_z 3, .ref r0, .ref r0]) P_i192_367 P_o_isub (show P_gw _ _ 368 [.ref G, P_z ig, P_z my, P_z k, P_un, P_un] [P_z (((nn : Nat) : Int) - 1), P_z 3, .ref r0, .ref r0] _ _ _ _ _ _ _ from ?_)
      refine P_gw_ast P_i192_368 (hr) (by omega) (by omega) (by omega) (show P_gw _ _ 369 [.ref G, P_z ig, P_z my, P_z k, P_un, P_un] [.ref r0] _ _ _ _ _ _ _ from ?_)
      have hf : G_fr G_R5 G_2 g τ g (P_u2 τ r0 3 (((nn : Nat) : Int) - 1)) := G_fr_r hr rfl
      have hb := G_Wb_fr hf (fun r h => Or.inl h) (fun j h => Or.inl h) ((P_u2_ne (by omega)).trans hdr2) hb
      have hS := P_gS_fr hf ⟨by unfold G_R5; omega, by unfold G_R5; omega⟩ (G_n2 (by omega)) hS
      have hIp := P_gRw_fr hf ⟨by unfold G_R5; omega, by unfold G_R5; omega⟩ (by omega) (G_n2 (by omega)) hIp
      have hC := P_gC_w (f := 3) (v := (((nn : Nat) : Int) - 1)) hr hne hC
      exact q g _ _ _ r0 c1 9 (1000 + v6) dr hb hS hIp hC hne hr ((P_u2_ne (by omega)).trans hq0) ((P_u2_ne (by omega)).trans hq1) ((P_u2_ne (by omega)).trans hq2) P_u2_at hc1 (by omega) (Or.inr (by omega)) (by omega) (by omega) (by omega)
  · refine P_gw_izt P_i192_318 ⟨by omega, by omega⟩ (P_ci_net (by omega)) (show P_gw _ _ 325 [.ref G, P_z ig, P_z my, P_z k, P_un, P_un] [P_z 9, P_z 1, .ref r0, .ref r0] _ _ _ _ _ _ _ from ?_)
    refine P_gw_op (L' := [.ref G, P_z ig, P_z my, P_z k, P_un, P_un]) (st' := [.ref G, P_z 9, P_z 1, .ref r0, .ref r0]) P_i192_325 rfl (show P_gw _ _ 326 [.ref G, P_z ig, P_z my, P_z k, P_un, P_un] [.ref G, P_z 9, P_z 1, .ref r0, .ref r0] _ _ _ _ _ _ _ from ?_)
    refine P_gw_op (L' := [.ref G, P_z ig, P_z my, P_z k, P_un, P_un]) (st' := [P_z 3, .ref G, P_z 9, P_z 1, .ref r0, .ref r0]) P_i192_326 rfl (show P_gw _ _ 327 [.ref G, P_z ig, P_z my, P_z k, P_un, P_un] [P_z 3, .ref G, P_z 9, P_z 1, .ref r0, .ref r0] _ _ _ _ _ _ _ from ?_)
    refine P_gw_call P_i192_327 rfl rfl (fun _ => rfl) rfl rfl rfl rfl (y2 := 182) (as := [.ref G, P_z 3]) (r0 := [P_z 9, P_z 1, .ref r0, .ref r0]) (P_ginv_v (hT.1.1) rfl rfl) (Nat.le_of_ble_eq_true rfl) (by decide) rfl (Nat.le_of_ble_eq_true rfl) (g_drw hT.1.1 hs1 hdr2 (by omega) (by omega) (fun v4 τ dr hv4a hv4b hf hdq h2 => ?_))
    have hq0 := ((hf _ _ _ hr).2 0 (fun q => by omega) id).trans hq0
    have hr := (hf _ _ _ hr).1
    have hS := P_gS_fr hf ⟨id, id⟩ (G_n2 (by omega)) hS
    have hIp := P_gRw_fr hf ⟨id, id⟩ (by omega) (G_n2 (by omega)) hIp
    have hC := P_gC_fr hf ⟨id, id, id⟩ (G_n2 (by omega)) hC
    have hb := G_Wb_fr hf (fun r h => h.elim) (fun j h => Or.inl h) h2 hb
    obtain ⟨hT, hL, hK, hct, hTK, h0, hs1, hdr2⟩ := id hb
    show P_gw _ _ 330 [.ref G, P_z ig, P_z my, P_z k, P_un, P_un] [P_z v4, P_z 9, P_z 1, .ref r0, .ref r0] _ _ _ _ _ _ _
    refine P_gw_op (L' := [.ref G, P_z ig, P_z my, P_z k, P_un, P_un]) (st' := [P_z (9 + v4), P_z 1, .ref r0, .ref r0]) P_i192_330 P_o_iadd (show P_gw _ _ 331 [.ref G, P_z ig, P_z my, P_z k, P_un, P_un] [P_z (9 + v4), P_z 1, .ref r0, .ref r0] _ _ _ _ _ _ _ from ?_)
    refine P_gw_ast P_i192_331 (hr) (by omega) (by omega) (by omega) (show P_gw _ _ 332 [.ref G, P_z ig, P_z my, P_z k, P_un, P_un] [.ref r0] _ _ _ _ _ _ _ from ?_)
    have hf : G_fr G_R5 G_2 g τ g (P_u2 τ r0 1 (9 + v4)) := G_fr_r hr rfl
    have hb := G_Wb_fr hf (fun r h => Or.inl h) (fun j h => Or.inl h) ((P_u2_ne (by omega)).trans hdr2) hb
    have hS := P_gS_fr hf ⟨by unfold G_R5; omega, by unfold G_R5; omega⟩ (G_n2 (by omega)) hS
    have hIp := P_gRw_fr hf ⟨by unfold G_R5; omega, by unfold G_R5; omega⟩ (by omega) (G_n2 (by omega)) hIp
    have hC := P_gC_w (f := 1) (v := (9 + v4)) hr hne hC
    refine P_gw_re (Pr := fun g' τ' N' u' => G_Wb w σ g' τ' G T tt rT tr cT VV L K tk dr ∧ P_gS g' τ' G S nn 3 sn ∧ P_gRw g' τ' G 6 8 I m gi ∧ P_gC g' τ' G B C ad ∧ (∀ i, 0 ≤ i → i < (C.length : Int) → ad i ≠ r0) ∧ g' r0 = some (5, .inr (.inl 4)) ∧ τ' r0 0 = c1 ∧ τ' r0 1 = (9 + v4) ∧ u' ≤ u) ⟨hb, hS, hIp, hC, hne, hr, (P_u2_ne (by omega)).trans hq0, P_u2_at, by omega⟩ (fun g τ N u hre => ?_)
    obtain ⟨hb, hS, hIp, hC, hne, hr, hq0, hq1, hub⟩ := hre
    refine P_gw_lts (fun hlt => ?_)
    obtain ⟨hT, hL, hK, hct, hTK, h0, hs1, hdr2⟩ := id hb
    have hlG := hlt _ _ _ hT.1.1
    refine P_gw_op (L' := [.ref G, P_z ig, P_z my, P_z k, P_un, P_un]) (st' := [.ref r0, .ref r0]) P_i192_332 rfl (show P_gw _ _ 333 [.ref G, P_z ig, P_z my, P_z k, P_un, P_un] [.ref r0, .ref r0] _ _ _ _ _ _ _ from ?_)
    refine P_gw_op (L' := [.ref G, P_z ig, P_z my, P_z k, P_un, P_un]) (st' := [P_z 2, .ref r0, .ref r0]) P_i192_333 rfl (show P_gw _ _ 334 [.ref G, P_z ig, P_z my, P_z k, P_un, P_un] [P_z 2, .ref r0, .ref r0] _ _ _ _ _ _ _ from ?_)
    refine P_gw_op (L' := [.ref G, P_z ig, P_z my, P_z k, P_un, P_un]) (st' := [.ref G, P_z 2, .ref r0, .ref r0]) P_i192_334 rfl (show P_gw _ _ 335 [.ref G, P_z ig, P_z my, P_z k, P_un, P_un] [.ref G, P_z 2, .ref r0, .ref r0] _ _ _ _ _ _ _ from ?_)
    refine P_gw_op (L' := [.ref G, P_z ig, P_z my, P_z k, P_un, P_un]) (st' := [P_z 2, .ref G, P_z 2, .ref r0, .ref r0]) P_i192_335 rfl (show P_gw _ _ 336 [.ref G, P_z ig, P_z my, P_z k, P_un, P_un] [P_z 2, .ref G, P_z 2, .ref r0, .ref r0] _ _ _ _ _ _ _ from ?_)
    refine P_gw_call P_i192_336 rfl rfl (fun _ => rfl) rfl rfl rfl rfl (y2 := 182) (as := [.ref G, P_z 2]) (r0 := [P_z 2, .ref r0, .ref r0]) (P_ginv_v (hT.1.1) rfl rfl) (Nat.le_of_ble_eq_true rfl) (by decide) rfl (Nat.le_of_ble_eq_true rfl) (g_drw hT.1.1 hs1 hdr2 (by omega) (by omega) (fun v5 τ dr hv5a hv5b hf hdq h2 => ?_))
    have hq0 := ((hf _ _ _ hr).2 0 (fun q => by omega) id).trans hq0
    have hq1 := ((hf _ _ _ hr).2 1 (fun q => by omega) id).trans hq1
    have hr := (hf _ _ _ hr).1
    have hS := P_gS_fr hf ⟨id, id⟩ (G_n2 (by omega)) hS
    have hIp := P_gRw_fr hf ⟨id, id⟩ (by omega) (G_n2 (by omega)) hIp
    have hC := P_gC_fr hf ⟨id, id, id⟩ (G_n2 (by omega)) hC
    have hb := G_Wb_fr hf (fun r h => h.elim) (fun j h => Or.inl h) h2 hb
    obtain ⟨hT, hL, hK, hct, hTK, h0, hs1, hdr2⟩ := id hb
    show P_gw _ _ 339 [.ref G, P_z ig, P_z my, P_z k, P_un, P_un] [P_z v5, P_z 2, .ref r0, .ref r0] _ _ _ _ _ _ _
    by_cases hc6 : v5 = 0
    · refine P_gw_izf P_i192_339 ⟨by omega, by omega⟩ (P_ci_nef (by omega)) (show P_gw _ _ 342 [.ref G, P_z ig, P_z my, P_z k, P_un, P_un] [P_z 2, .ref r0, .ref r0] _ _ _ _ _ _ _ from ?_)
      refine P_gw_op (L' := [.ref G, P_z ig, P_z my, P_z k, P_un, P_un]) (st' := [.ref G, P_z 2, .ref r0, .ref r0]) P_i192_342 rfl (show P_gw _ _ 343 [.ref G, P_z ig, P_z my, P_z k, P_un, P_un] [.ref G, P_z 2, .ref r0, .ref r0] _ _ _ _ _ _ _ from ?_)
      refine P_gw_call P_i192_343 rfl rfl (fun _ => rfl) rfl rfl rfl rfl (y2 := 191) (as := [.ref G]) (r0 := [P_z 2, .ref r0, .ref r0]) (P_ginv_v (hT.1.1) rfl rfl) (Nat.le_of_ble_eq_true rfl) (by decide) rfl (Nat.le_of_ble_eq_true rfl) (g_col hb hS (by omega) (fun c7 τ dr hc7 hf hdq h2 => ?_))
      have hq0 := ((hf _ _ _ hr).2 0 (fun q => by omega) id).trans hq0
      have hq1 := ((hf _ _ _ hr).2 1 (fun q => by omega) id).trans hq1
      have hr := (hf _ _ _ hr).1
      have hS := P_gS_fr hf ⟨id, id⟩ (G_n2 (by omega)) hS
      have hIp := P_gRw_fr hf ⟨id, id⟩ (by omega) (G_n2 (by omega)) hIp
      have hC := P_gC_fr hf ⟨id, id, id⟩ (G_n2 (by omega)) hC
      have hb := G_Wb_fr hf (fun r h => h.elim) (fun j h => Or.inl h) h2 hb
      obtain ⟨hT, hL, hK, hct, hTK, h0, hs1, hdr2⟩ := id hb
      have hc7a := (P_gcol_v hc7).1
      show P_gw _ _ 346 [.ref G, P_z ig, P_z my, P_z k, P_un, P_un] [P_z c7, P_z 2, .ref r0, .ref r0] _ _ _ _ _ _ _
      refine P_gw_goto P_i192_346 (show P_gw _ _ 358 [.ref G, P_z ig, P_z my, P_z k, P_un, P_un] [P_z c7, P_z 2, .ref r0, .ref r0] _ _ _ _ _ _ _ from ?_)
      refine P_gw_ast P_i192_358 (hr) (by omega) (by omega) (by omega) (show P_gw _ _ 359 [.ref G, P_z ig, P_z my, P_z k, P_un, P_un] [.ref r0] _ _ _ _ _ _ _ from ?_)
      have hf : G_fr G_R5 G_2 g τ g (P_u2 τ r0 2 c7) := G_fr_r hr rfl
      have hb := G_Wb_fr hf (fun r h => Or.inl h) (fun j h => Or.inl h) ((P_u2_ne (by omega)).trans hdr2) hb
      have hS := P_gS_fr hf ⟨by unfold G_R5; omega, by unfold G_R5; omega⟩ (G_n2 (by omega)) hS
      have hIp := P_gRw_fr hf ⟨by unfold G_R5; omega, by unfold G_R5; omega⟩ (by omega) (G_n2 (by omega)) hIp
      have hC := P_gC_w (f := 2) (v := c7) hr hne hC
      refine P_gw_re (Pr := fun g' τ' N' u' => G_Wb w σ g' τ' G T tt rT tr cT VV L K tk dr ∧ P_gS g' τ' G S nn 3 sn ∧ P_gRw g' τ' G 6 8 I m gi ∧ P_gC g' τ' G B C ad ∧ (∀ i, 0 ≤ i → i < (C.length : Int) → ad i ≠ r0) ∧ g' r0 = some (5, .inr (.inl 4)) ∧ τ' r0 0 = c1 ∧ τ' r0 1 = (9 + v4) ∧ τ' r0 2 = c7 ∧ u' ≤ u) ⟨hb, hS, hIp, hC, hne, hr, (P_u2_ne (by omega)).trans hq0, (P_u2_ne (by omega)).trans hq1, P_u2_at, by omega⟩ (fun g τ N u hre => ?_)
      obtain ⟨hb, hS, hIp, hC, hne, hr, hq0, hq1, hq2, hub⟩ := hre
      refine P_gw_lts (fun hlt => ?_)
      obtain ⟨hT, hL, hK, hct, hTK, h0, hs1, hdr2⟩ := id hb
      have hlG := hlt _ _ _ hT.1.1
      refine P_gw_op (L' := [.ref G, P_z ig, P_z my, P_z k, P_un, P_un]) (st' := [.ref r0, .ref r0]) P_i192_359 rfl (show P_gw _ _ 360 [.ref G, P_z ig, P_z my, P_z k, P_un, P_un] [.ref r0, .ref r0] _ _ _ _ _ _ _ from ?_)
      refine P_gw_op (L' := [.ref G, P_z ig, P_z my, P_z k, P_un, P_un]) (st' := [P_z 3, .ref r0, .ref r0]) P_i192_360 rfl (show P_gw _ _ 361 [.ref G, P_z ig, P_z my, P_z k, P_un, P_un] [P_z 3, .ref r0, .ref r0] _ _ _ _ _ _ _ from ?_)
      refine P_gw_op (L' := [.ref G, P_z ig, P_z my, P_z k, P_un, P_un]) (st' := [.ref G, P_z 3, .ref r0, .ref r0]) P_i192_361 rfl (show P_gw _ _ 362 [.ref G, P_z ig, P_z my, P_z k, P_un, P_un] [.ref G, P_z 3, .ref r0, .ref r0] _ _ _ _ _ _ _ from ?_)
      refine P_gw_getR (P_i192_362) (hT.1.1) rfl rfl (hS.1.2) (show P_gw _ _ 365 [.ref G, P_z ig, P_z my, P_z k, P_un, P_un] [.ref S, P_z 3, .ref r0, .ref r0] _ _ _ _ _ _ _ from ?_)
      refine P_gw_alen P_i192_365 (hS.2.1) (show P_gw _ _ 366 [.ref G, P_z ig, P_z my, P_z k, P_un, P_un] [P_z ((nn : Nat) : Int), P_z 3, .ref r0, .ref r0] _ _ _ _ _ _ _ from ?_)
      refine P_gw_op (L' := [.ref G, P_z ig, P_z my, P_z k, P_un, P_un]) (st' := [P_z 1, P_z ((nn : Nat) : Int), P_z 3, .ref r0, .ref r0]) P_i192_366 rfl (show P_gw _ _ 367 [.ref G, P_z ig, P_z my, P_z k, P_un, P_un] [P_z 1, P_z ((nn : Nat) : Int), P_z 3, .ref r0, .ref r0] _ _ _ _ _ _ _ from ?_)
      refine P_gw_op (L' := [.ref G, P_z ig, P_z my, P_z k, P_un, P_un]) (st' := [P_z (((nn : Nat) : Int) - 1), P_z 3, .ref r0, .ref r0]) P_i192_367 P_o_isub (show P_gw _ _ 368 [.ref G, P_z ig, P_z my, P_z k, P_un, P_un] [P_z (((nn : Nat) : Int) - 1), P_z 3, .ref r0, .ref r0] _ _ _ _ _ _ _ from ?_)
      refine P_gw_ast P_i192_368 (hr) (by omega) (by omega) (by omega) (show P_gw _ _ 369 [.ref G, P_z ig, P_z my, P_z k, P_un, P_un] [.ref r0] _ _ _ _ _ _ _ from ?_)
      have hf : G_fr G_R5 G_2 g τ g (P_u2 τ r0 3 (((nn : Nat) : Int) - 1)) := G_fr_r hr rfl
      have hb := G_Wb_fr hf (fun r h => Or.inl h) (fun j h => Or.inl h) ((P_u2_ne (by omega)).trans hdr2) hb
      have hS := P_gS_fr hf ⟨by unfold G_R5; omega, by unfold G_R5; omega⟩ (G_n2 (by omega)) hS
      have hIp := P_gRw_fr hf ⟨by unfold G_R5; omega, by unfold G_R5; omega⟩ (by omega) (G_n2 (by omega)) hIp
      have hC := P_gC_w (f := 3) (v := (((nn : Nat) : Int) - 1)) hr hne hC
      exact q g _ _ _ r0 c1 (9 + v4) c7 dr hb hS hIp hC hne hr ((P_u2_ne (by omega)).trans hq0) ((P_u2_ne (by omega)).trans hq1) ((P_u2_ne (by omega)).trans hq2) P_u2_at hc1 (by omega) (Or.inl hc7) (by omega) (by omega) (by omega)
    · refine P_gw_izt P_i192_339 ⟨by omega, by omega⟩ (P_ci_net (by omega)) (show P_gw _ _ 349 [.ref G, P_z ig, P_z my, P_z k, P_un, P_un] [P_z 2, .ref r0, .ref r0] _ _ _ _ _ _ _ from ?_)
      refine P_gw_op (L' := [.ref G, P_z ig, P_z my, P_z k, P_un, P_un]) (st' := [P_z 1000, P_z 2, .ref r0, .ref r0]) P_i192_349 (P_o_si (by decide)) (show P_gw _ _ 352 [.ref G, P_z ig, P_z my, P_z k, P_un, P_un] [P_z 1000, P_z 2, .ref r0, .ref r0] _ _ _ _ _ _ _ from ?_)
      refine P_gw_op (L' := [.ref G, P_z ig, P_z my, P_z k, P_un, P_un]) (st' := [.ref G, P_z 1000, P_z 2, .ref r0, .ref r0]) P_i192_352 rfl (show P_gw _ _ 353 [.ref G, P_z ig, P_z my, P_z k, P_un, P_un] [.ref G, P_z 1000, P_z 2, .ref r0, .ref r0] _ _ _ _ _ _ _ from ?_)
      refine P_gw_op (L' := [.ref G, P_z ig, P_z my, P_z k, P_un, P_un]) (st' := [P_z 3, .ref G, P_z 1000, P_z 2, .ref r0, .ref r0]) P_i192_353 rfl (show P_gw _ _ 354 [.ref G, P_z ig, P_z my, P_z k, P_un, P_un] [P_z 3, .ref G, P_z 1000, P_z 2, .ref r0, .ref r0] _ _ _ _ _ _ _ from ?_)
      refine P_gw_call P_i192_354 rfl rfl (fun _ => rfl) rfl rfl rfl rfl (y2 := 182) (as := [.ref G, P_z 3]) (r0 := [P_z 1000, P_z 2, .ref r0, .ref r0]) (P_ginv_v (hT.1.1) rfl rfl) (Nat.le_of_ble_eq_true rfl) (by decide) rfl (Nat.le_of_ble_eq_true rfl) (g_drw hT.1.1 hs1 hdr2 (by omega) (by omega) (fun v7 τ dr hv7a hv7b hf hdq h2 => ?_))
      have hq0 := ((hf _ _ _ hr).2 0 (fun q => by omega) id).trans hq0
      have hq1 := ((hf _ _ _ hr).2 1 (fun q => by omega) id).trans hq1
      have hr := (hf _ _ _ hr).1
      have hS := P_gS_fr hf ⟨id, id⟩ (G_n2 (by omega)) hS
      have hIp := P_gRw_fr hf ⟨id, id⟩ (by omega) (G_n2 (by omega)) hIp
      have hC := P_gC_fr hf ⟨id, id, id⟩ (G_n2 (by omega)) hC
      have hb := G_Wb_fr hf (fun r h => h.elim) (fun j h => Or.inl h) h2 hb
      obtain ⟨hT, hL, hK, hct, hTK, h0, hs1, hdr2⟩ := id hb
      show P_gw _ _ 357 [.ref G, P_z ig, P_z my, P_z k, P_un, P_un] [P_z v7, P_z 1000, P_z 2, .ref r0, .ref r0] _ _ _ _ _ _ _
      refine P_gw_op (L' := [.ref G, P_z ig, P_z my, P_z k, P_un, P_un]) (st' := [P_z (1000 + v7), P_z 2, .ref r0, .ref r0]) P_i192_357 P_o_iadd (show P_gw _ _ 358 [.ref G, P_z ig, P_z my, P_z k, P_un, P_un] [P_z (1000 + v7), P_z 2, .ref r0, .ref r0] _ _ _ _ _ _ _ from ?_)
      refine P_gw_ast P_i192_358 (hr) (by omega) (by omega) (by omega) (show P_gw _ _ 359 [.ref G, P_z ig, P_z my, P_z k, P_un, P_un] [.ref r0] _ _ _ _ _ _ _ from ?_)
      have hf : G_fr G_R5 G_2 g τ g (P_u2 τ r0 2 (1000 + v7)) := G_fr_r hr rfl
      have hb := G_Wb_fr hf (fun r h => Or.inl h) (fun j h => Or.inl h) ((P_u2_ne (by omega)).trans hdr2) hb
      have hS := P_gS_fr hf ⟨by unfold G_R5; omega, by unfold G_R5; omega⟩ (G_n2 (by omega)) hS
      have hIp := P_gRw_fr hf ⟨by unfold G_R5; omega, by unfold G_R5; omega⟩ (by omega) (G_n2 (by omega)) hIp
      have hC := P_gC_w (f := 2) (v := (1000 + v7)) hr hne hC
      refine P_gw_re (Pr := fun g' τ' N' u' => G_Wb w σ g' τ' G T tt rT tr cT VV L K tk dr ∧ P_gS g' τ' G S nn 3 sn ∧ P_gRw g' τ' G 6 8 I m gi ∧ P_gC g' τ' G B C ad ∧ (∀ i, 0 ≤ i → i < (C.length : Int) → ad i ≠ r0) ∧ g' r0 = some (5, .inr (.inl 4)) ∧ τ' r0 0 = c1 ∧ τ' r0 1 = (9 + v4) ∧ τ' r0 2 = (1000 + v7) ∧ u' ≤ u) ⟨hb, hS, hIp, hC, hne, hr, (P_u2_ne (by omega)).trans hq0, (P_u2_ne (by omega)).trans hq1, P_u2_at, by omega⟩ (fun g τ N u hre => ?_)
      obtain ⟨hb, hS, hIp, hC, hne, hr, hq0, hq1, hq2, hub⟩ := hre
      refine P_gw_lts (fun hlt => ?_)
      obtain ⟨hT, hL, hK, hct, hTK, h0, hs1, hdr2⟩ := id hb
      have hlG := hlt _ _ _ hT.1.1
      refine P_gw_op (L' := [.ref G, P_z ig, P_z my, P_z k, P_un, P_un]) (st' := [.ref r0, .ref r0]) P_i192_359 rfl (show P_gw _ _ 360 [.ref G, P_z ig, P_z my, P_z k, P_un, P_un] [.ref r0, .ref r0] _ _ _ _ _ _ _ from ?_)
      refine P_gw_op (L' := [.ref G, P_z ig, P_z my, P_z k, P_un, P_un]) (st' := [P_z 3, .ref r0, .ref r0]) P_i192_360 rfl (show P_gw _ _ 361 [.ref G, P_z ig, P_z my, P_z k, P_un, P_un] [P_z 3, .ref r0, .ref r0] _ _ _ _ _ _ _ from ?_)
      refine P_gw_op (L' := [.ref G, P_z ig, P_z my, P_z k, P_un, P_un]) (st' := [.ref G, P_z 3, .ref r0, .ref r0]) P_i192_361 rfl (show P_gw _ _ 362 [.ref G, P_z ig, P_z my, P_z k, P_un, P_un] [.ref G, P_z 3, .ref r0, .ref r0] _ _ _ _ _ _ _ from ?_)
      refine P_gw_getR (P_i192_362) (hT.1.1) rfl rfl (hS.1.2) (show P_gw _ _ 365 [.ref G, P_z ig, P_z my, P_z k, P_un, P_un] [.ref S, P_z 3, .ref r0, .ref r0] _ _ _ _ _ _ _ from ?_)
      refine P_gw_alen P_i192_365 (hS.2.1) (show P_gw _ _ 366 [.ref G, P_z ig, P_z my, P_z k, P_un, P_un] [P_z ((nn : Nat) : Int), P_z 3, .ref r0, .ref r0] _ _ _ _ _ _ _ from ?_)
      refine P_gw_op (L' := [.ref G, P_z ig, P_z my, P_z k, P_un, P_un]) (st' := [P_z 1, P_z ((nn : Nat) : Int), P_z 3, .ref r0, .ref r0]) P_i192_366 rfl (show P_gw _ _ 367 [.ref G, P_z ig, P_z my, P_z k, P_un, P_un] [P_z 1, P_z ((nn : Nat) : Int), P_z 3, .ref r0, .ref r0] _ _ _ _ _ _ _ from ?_)
      refine P_gw_op (L' := [.ref G, P_z ig, P_z my, P_z k, P_un, P_un]) (st' := [P_z (((nn : Nat) : Int) - 1), P_z 3, .ref r0, .ref r0]) P_i192_367 P_o_isub (show P_gw _ _ 368 [.ref G, P_z ig, P_z my, P_z k, P_un, P_un] [P_z (((nn : Nat) : Int) - 1), P_z 3, .ref r0, .ref r0] _ _ _ _ _ _ _ from ?_)
      refine P_gw_ast P_i192_368 (hr) (by omega) (by omega) (by omega) (show P_gw _ _ 369 [.ref G, P_z ig, P_z my, P_z k, P_un, P_un] [.ref r0] _ _ _ _ _ _ _ from ?_)
      have hf : G_fr G_R5 G_2 g τ g (P_u2 τ r0 3 (((nn : Nat) : Int) - 1)) := G_fr_r hr rfl
      have hb := G_Wb_fr hf (fun r h => Or.inl h) (fun j h => Or.inl h) ((P_u2_ne (by omega)).trans hdr2) hb
      have hS := P_gS_fr hf ⟨by unfold G_R5; omega, by unfold G_R5; omega⟩ (G_n2 (by omega)) hS
      have hIp := P_gRw_fr hf ⟨by unfold G_R5; omega, by unfold G_R5; omega⟩ (by omega) (G_n2 (by omega)) hIp
      have hC := P_gC_w (f := 3) (v := (((nn : Nat) : Int) - 1)) hr hne hC
      exact q g _ _ _ r0 c1 (9 + v4) (1000 + v7) dr hb hS hIp hC hne hr ((P_u2_ne (by omega)).trans hq0) ((P_u2_ne (by omega)).trans hq1) ((P_u2_ne (by omega)).trans hq2) P_u2_at hc1 (by omega) (Or.inr (by omega)) (by omega) (by omega) (by omega)

theorem wr_Cb {d : Nat} {w : P_Lw} {σ : P_A} {g : P_Gl} {τ : P_A} {N u : Nat} {Q : P_GQ} (hw : P_Cw w) {G T : Nat} {tt : Int → Nat} {rT : Int → Nat} {tr : Int → Int → Nat} {cT : Int → Nat} {VV : Int → Int → Int → Int} {L : Nat} {S nn : Nat} {sn : Int → Int} {I m : Nat} {gi : Int → Int} {σ0 : P_A} {ig : Int} {X : List Int} {K : Nat} {tk : List Int} {dr : Int} (hig : 0 ≤ ig ∧ ig ≤ 1) {my k : Int} (hmy : 0 ≤ my ∧ my ≤ 5) {B : Nat} {C : List A_cd} {ad : Int → Nat} (hb : G_Wb w σ g τ G T tt rT tr cT VV L K tk dr) (hS : P_gS g τ G S nn 3 sn) (hIp : P_gRw g τ G 6 8 I m gi) (hC : P_gC g τ G B C ad) (hk : k = (C.length : Int)) (hst : G_tf σ0 σ) {r0 : Nat} {a b c : Int} (hne : ∀ i, 0 ≤ i → i < (C.length : Int) → ad i ≠ r0) (hr : g r0 = some (5, .inr (.inl 4))) (hq0 : τ r0 0 = a) (hq1 : τ r0 1 = b) (hq2 : τ r0 2 = c) (hq3 : τ r0 3 = (nn : Int) - 1) (ha : 100 ≤ a ∧ a ≤ 199) (hb2 : 9 ≤ b ∧ b ≤ 11) (hc2 : (100 ≤ c ∧ c ≤ 199) ∨ 1000 ≤ c ∧ c ≤ 1999) (htk : tk = X) (htl : tk.length ≤ 30) (hk5 : k ≤ 4) (q : ∀ σ' g' τ' N' u' B' ad' K' tk', G_Wb w σ' g' τ' G T tt rT tr cT VV L K' tk' dr → P_gS g' τ' G S nn 3 sn → P_gRw g' τ' G 6 8 I m gi → P_gC g' τ' G B' (C ++ [(a, b, c, (nn : Int) - 1)]) ad' → tk' = X ++ [if C.length = 0 then 2 else 3, a, b, c] → G_tf σ0 σ' → u' ≤ u + 300 → P_gw (d + 12) 192 294 [.ref G, P_z ig, P_z my, P_z (k + 1), P_un, P_un] [] w σ' g' τ' N' u' Q) : P_gw (d + 12) 192 369 [.ref G, P_z ig, P_z my, P_z k, P_un, P_un] [.ref r0] w σ g τ N u Q := by
  refine P_gw_lts (fun hlt => ?_)
  obtain ⟨hT, hL, hK, hct, hTK, h0, hs1, hdr2⟩ := id hb
  have hlG := hlt _ _ _ hT.1.1
  have hn1 := hS.2.2.1
  have hr0G : r0 ≠ G := fun e => by rw [e] at hr; cases hr.symm.trans hT.1.1
  refine P_gw_op (L' := [.ref G, P_z ig, P_z my, P_z k, .ref r0, P_un]) (st' := []) P_i192_369 rfl (show P_gw _ _ 371 [.ref G, P_z ig, P_z my, P_z k, .ref r0, P_un] [] _ _ _ _ _ _ _ from ?_)
  refine P_gw_op (L' := [.ref G, P_z ig, P_z my, P_z k, .ref r0, P_un]) (st' := [.ref G]) P_i192_371 rfl (show P_gw _ _ 372 [.ref G, P_z ig, P_z my, P_z k, .ref r0, P_un] [.ref G] _ _ _ _ _ _ _ from ?_)
  refine P_gw_op (L' := [.ref G, P_z ig, P_z my, P_z k, .ref r0, P_un]) (st' := [.ref G, .ref G]) P_i192_372 rfl (show P_gw _ _ 373 [.ref G, P_z ig, P_z my, P_z k, .ref r0, P_un] [.ref G, .ref G] _ _ _ _ _ _ _ from ?_)
  refine P_gw_getR (P_i192_373) (hT.1.1) rfl rfl (hC.1.2) (show P_gw _ _ 376 [.ref G, P_z ig, P_z my, P_z k, .ref r0, P_un] [.ref B, .ref G] _ _ _ _ _ _ _ from ?_)
  refine P_gw_op (L' := [.ref G, P_z ig, P_z my, P_z k, .ref r0, P_un]) (st' := [P_z k, .ref B, .ref G]) P_i192_376 rfl (show P_gw _ _ 377 [.ref G, P_z ig, P_z my, P_z k, .ref r0, P_un] [P_z k, .ref B, .ref G] _ _ _ _ _ _ _ from ?_)
  refine P_gw_op (L' := [.ref G, P_z ig, P_z my, P_z k, .ref r0, P_un]) (st' := [.ref r0, P_z k, .ref B, .ref G]) P_i192_377 rfl (show P_gw _ _ 379 [.ref G, P_z ig, P_z my, P_z k, .ref r0, P_un] [.ref r0, P_z k, .ref B, .ref G] _ _ _ _ _ _ _ from ?_)
  refine P_gw_call P_i192_379 rfl rfl (fun _ => rfl) rfl rfl rfl rfl (y2 := 184) (as := [.ref B, P_z k, .ref r0]) (r0 := [.ref G]) (fun _ _ => rfl) (Nat.le_of_ble_eq_true rfl) (by decide) rfl (Nat.le_of_ble_eq_true rfl) (s_with 7 hC.2.1 (P_gC_rw hC hlt) (by omega) hr (by omega) (fun g' τ' u' hx hN h1 h2 h3 hu => ?_))
  show P_gw _ _ 382 [.ref G, P_z ig, P_z my, P_z k, .ref r0, P_un] [.ref N, .ref G] _ _ _ _ _ _ _
  refine P_gw_putR (b := N) P_i192_382 (((hx G (by omega)).1).trans (hT.1.1)) rfl rfl (fun _ => rfl) (show P_gw _ _ 385 [.ref G, P_z ig, P_z my, P_z k, .ref r0, P_un] [] _ _ _ _ _ _ _ from ?_)
  have hlr := (hlt _ _ _ hr).2
  have hf : G_fr G_0 (fun j => j = 11) g τ g' (P_u2 τ' G 11 ((N : Nat) : Int)) := G_fr_tr (G_fr_xt hlt hx) (G_fr_f ((hx G (by omega)).1.trans hT.1.1) rfl)
  have hC := G_C_add2 (y := (a, b, c, (((nn : Nat) : Int) - 1))) hC hlt (by omega) hne hr (fun f hf => by rcases (by omega : f = 0 ∨ f = 1 ∨ f = 2 ∨ f = 3) with rfl | rfl | rfl | rfl; exact hq0; exact hq1; exact hq2; exact hq3) hx hN (fun j hj => h1 j (by omega)) (by rw [← h2]; congr 1; omega)
  have hb := G_Wb_fr hf (fun r h => h.elim) (fun j h => by omega) ((P_u2_ne (by omega)).trans (((hx G (by omega)).2 _).trans hdr2)) hb
  have hq0 := ((hf _ _ _ hr).2 0 (fun q => by omega) id).trans hq0
  have hq1 := ((hf _ _ _ hr).2 1 (fun q => by omega) id).trans hq1
  have hq2 := ((hf _ _ _ hr).2 2 (fun q => by omega) id).trans hq2
  have hr := (hf _ _ _ hr).1
  have hS := P_gS_fr hf ⟨id, id⟩ (by omega) hS
  have hIp := P_gRw_fr hf ⟨id, id⟩ (by omega) (by omega) hIp
  obtain ⟨B, hBq⟩ : ∃ x, x = N := ⟨_, rfl⟩
  obtain ⟨ad, had⟩ : ∃ x : Int → Nat, x = (fun j => if j < (C.length : Int) then ad j else r0) := ⟨_, rfl⟩
  rw [← had] at hC
  refine P_gw_re (Pr := fun g' τ' N' u' => G_Wb w σ g' τ' G T tt rT tr cT VV L K tk dr ∧ P_gS g' τ' G S nn 3 sn ∧ P_gRw g' τ' G 6 8 I m gi ∧ P_gC g' τ' G B (C ++ [(a, b, c, (((nn : Nat) : Int) - 1))]) ad ∧ g' r0 = some (5, .inr (.inl 4)) ∧ τ' r0 0 = a ∧ τ' r0 1 = b ∧ τ' r0 2 = c ∧ u' ≤ u + 20) ⟨hb, hS, hIp, hBq ▸ hC, hr, hq0, hq1, hq2, by omega⟩ (fun g τ N u hre => ?_)
  obtain ⟨hb, hS, hIp, hC, hr, hq0, hq1, hq2, hub⟩ := hre
  refine P_gw_lts (fun hlt => ?_)
  obtain ⟨hT, hL, hK, hct, hTK, h0, hs1, hdr2⟩ := id hb
  have hlG := hlt _ _ _ hT.1.1
  refine P_gw_op (L' := [.ref G, P_z ig, P_z my, P_z k, .ref r0, P_un]) (st' := [.ref G]) P_i192_385 rfl (show P_gw _ _ 386 [.ref G, P_z ig, P_z my, P_z k, .ref r0, P_un] [.ref G] _ _ _ _ _ _ _ from ?_)
  refine P_gw_op (L' := [.ref G, P_z ig, P_z my, P_z k, .ref r0, P_un]) (st' := [P_z k, .ref G]) P_i192_386 rfl (show P_gw _ _ 387 [.ref G, P_z ig, P_z my, P_z k, .ref r0, P_un] [P_z k, .ref G] _ _ _ _ _ _ _ from ?_)
  by_cases hc1 : k = 0
  · refine P_gw_izf P_i192_387 ⟨by omega, by omega⟩ (P_ci_nef (by omega)) (show P_gw _ _ 390 [.ref G, P_z ig, P_z my, P_z k, .ref r0, P_un] [.ref G] _ _ _ _ _ _ _ from ?_)
    refine P_gw_op (L' := [.ref G, P_z ig, P_z my, P_z k, .ref r0, P_un]) (st' := [P_z 2, .ref G]) P_i192_390 rfl (show P_gw _ _ 391 [.ref G, P_z ig, P_z my, P_z k, .ref r0, P_un] [P_z 2, .ref G] _ _ _ _ _ _ _ from ?_)
    refine P_gw_goto P_i192_391 (show P_gw _ _ 395 [.ref G, P_z ig, P_z my, P_z k, .ref r0, P_un] [P_z 2, .ref G] _ _ _ _ _ _ _ from ?_)
    have htl2 : tk.length < 40 := by omega
    refine P_gw_call P_i192_395 rfl rfl (fun _ => rfl) rfl rfl rfl rfl (y2 := 190) (as := [.ref G, P_z 2]) (r0 := []) (P_ginv_v (hT.1.1) rfl rfl) (Nat.le_of_ble_eq_true rfl) (by decide) rfl (Nat.le_of_ble_eq_true rfl) (g_tok hw hb (t := 2) htl2 (by omega) (fun σ g τ u hb hf hsf hub => ?_))
    have hq0 := ((hf _ _ _ hr).2 0 (fun q => by omega) id).trans hq0
    have hq1 := ((hf _ _ _ hr).2 1 (fun q => by omega) id).trans hq1
    have hq2 := ((hf _ _ _ hr).2 2 (fun q => by omega) id).trans hq2
    have hr := (hf _ _ _ hr).1
    have hS := P_gS_fr hf ⟨id, id⟩ (G_n5f (by omega)) hS
    have hIp := P_gRw_fr hf ⟨id, id⟩ (by omega) (G_n5f (by omega)) hIp
    have hC := P_gC_fr hf ⟨id, id, id⟩ (G_n5f (by omega)) hC
    obtain ⟨tk, htq⟩ : ∃ x, x = tk ++ [2] := ⟨_, rfl⟩
    rw [← htq] at hb
    have htl := congrArg List.length htq
    simp only [List.length_append, List.length_cons, List.length_nil] at htl
    rw [htk] at htq
    have htk := htq
    have hst := G_tf_tr hst hsf
    obtain ⟨K, hKq⟩ : ∃ x, x = N := ⟨_, rfl⟩
    rw [← hKq] at hb
    refine P_gw_re (Pr := fun g' τ' N' u' => g = g' ∧ τ = τ' ∧ u = u' ∧ N < N') ⟨rfl, rfl, rfl, by omega⟩ (fun g1 τ1 N u1 hre => ?_)
    obtain ⟨rfl, rfl, rfl, hNN⟩ := hre
    refine P_gw_lts (fun hlt => ?_)
    obtain ⟨hT, hL, hK, hct, hTK, h0, hs1, hdr2⟩ := id hb
    have hlG := hlt _ _ _ hT.1.1
    show P_gw _ _ 398 [.ref G, P_z ig, P_z my, P_z k, .ref r0, P_un] [P_z 1] _ _ _ _ _ _ _
    refine P_gw_izf P_i192_398 ⟨by decide, by decide⟩ (P_ci_eqf (by omega)) (show P_gw _ _ 401 [.ref G, P_z ig, P_z my, P_z k, .ref r0, P_un] [] _ _ _ _ _ _ _ from ?_)
    refine P_gw_op (L' := [.ref G, P_z ig, P_z my, P_z k, .ref r0, P_un]) (st' := [.ref G]) P_i192_401 rfl (show P_gw _ _ 402 [.ref G, P_z ig, P_z my, P_z k, .ref r0, P_un] [.ref G] _ _ _ _ _ _ _ from ?_)
    refine P_gw_op (L' := [.ref G, P_z ig, P_z my, P_z k, .ref r0, P_un]) (st' := [.ref r0, .ref G]) P_i192_402 rfl (show P_gw _ _ 404 [.ref G, P_z ig, P_z my, P_z k, .ref r0, P_un] [.ref r0, .ref G] _ _ _ _ _ _ _ from ?_)
    refine P_gw_op (L' := [.ref G, P_z ig, P_z my, P_z k, .ref r0, P_un]) (st' := [P_z 0, .ref r0, .ref G]) P_i192_404 rfl (show P_gw _ _ 405 [.ref G, P_z ig, P_z my, P_z k, .ref r0, P_un] [P_z 0, .ref r0, .ref G] _ _ _ _ _ _ _ from ?_)
    refine P_gw_ald P_i192_405 (hr) (by omega) (by omega) (by omega) (hq0) (show P_gw _ _ 406 [.ref G, P_z ig, P_z my, P_z k, .ref r0, P_un] [P_z a, .ref G] _ _ _ _ _ _ _ from ?_)
    have htl3 : tk.length < 40 := by omega
    refine P_gw_call P_i192_406 rfl rfl (fun _ => rfl) rfl rfl rfl rfl (y2 := 190) (as := [.ref G, P_z a]) (r0 := []) (P_ginv_v (hT.1.1) rfl rfl) (Nat.le_of_ble_eq_true rfl) (by decide) rfl (Nat.le_of_ble_eq_true rfl) (g_tok hw hb (t := a) htl3 (by omega) (fun σ g τ u hb hf hsf hub => ?_))
    have hq0 := ((hf _ _ _ hr).2 0 (fun q => by omega) id).trans hq0
    have hq1 := ((hf _ _ _ hr).2 1 (fun q => by omega) id).trans hq1
    have hq2 := ((hf _ _ _ hr).2 2 (fun q => by omega) id).trans hq2
    have hr := (hf _ _ _ hr).1
    have hS := P_gS_fr hf ⟨id, id⟩ (G_n5f (by omega)) hS
    have hIp := P_gRw_fr hf ⟨id, id⟩ (by omega) (G_n5f (by omega)) hIp
    have hC := P_gC_fr hf ⟨id, id, id⟩ (G_n5f (by omega)) hC
    obtain ⟨tk, htq⟩ : ∃ x, x = tk ++ [a] := ⟨_, rfl⟩
    rw [← htq] at hb
    have htl := congrArg List.length htq
    simp only [List.length_append, List.length_cons, List.length_nil] at htl
    rw [htk] at htq
    have htk := htq
    have hst := G_tf_tr hst hsf
    obtain ⟨K, hKq⟩ : ∃ x, x = N := ⟨_, rfl⟩
    rw [← hKq] at hb
    refine P_gw_re (Pr := fun g' τ' N' u' => g = g' ∧ τ = τ' ∧ u = u' ∧ N < N') ⟨rfl, rfl, rfl, by omega⟩ (fun g1 τ1 N u1 hre => ?_)
    obtain ⟨rfl, rfl, rfl, hNN⟩ := hre
    refine P_gw_lts (fun hlt => ?_)
    obtain ⟨hT, hL, hK, hct, hTK, h0, hs1, hdr2⟩ := id hb
    have hlG := hlt _ _ _ hT.1.1
    show P_gw _ _ 409 [.ref G, P_z ig, P_z my, P_z k, .ref r0, P_un] [P_z 1] _ _ _ _ _ _ _
    refine P_gw_izf P_i192_409 ⟨by decide, by decide⟩ (P_ci_eqf (by omega)) (show P_gw _ _ 412 [.ref G, P_z ig, P_z my, P_z k, .ref r0, P_un] [] _ _ _ _ _ _ _ from ?_)
    refine P_gw_op (L' := [.ref G, P_z ig, P_z my, P_z k, .ref r0, P_un]) (st' := [.ref G]) P_i192_412 rfl (show P_gw _ _ 413 [.ref G, P_z ig, P_z my, P_z k, .ref r0, P_un] [.ref G] _ _ _ _ _ _ _ from ?_)
    refine P_gw_op (L' := [.ref G, P_z ig, P_z my, P_z k, .ref r0, P_un]) (st' := [.ref r0, .ref G]) P_i192_413 rfl (show P_gw _ _ 415 [.ref G, P_z ig, P_z my, P_z k, .ref r0, P_un] [.ref r0, .ref G] _ _ _ _ _ _ _ from ?_)
    refine P_gw_op (L' := [.ref G, P_z ig, P_z my, P_z k, .ref r0, P_un]) (st' := [P_z 1, .ref r0, .ref G]) P_i192_415 rfl (show P_gw _ _ 416 [.ref G, P_z ig, P_z my, P_z k, .ref r0, P_un] [P_z 1, .ref r0, .ref G] _ _ _ _ _ _ _ from ?_)
    refine P_gw_ald P_i192_416 (hr) (by omega) (by omega) (by omega) (hq1) (show P_gw _ _ 417 [.ref G, P_z ig, P_z my, P_z k, .ref r0, P_un] [P_z b, .ref G] _ _ _ _ _ _ _ from ?_)
    have htl4 : tk.length < 40 := by omega
    refine P_gw_call P_i192_417 rfl rfl (fun _ => rfl) rfl rfl rfl rfl (y2 := 190) (as := [.ref G, P_z b]) (r0 := []) (P_ginv_v (hT.1.1) rfl rfl) (Nat.le_of_ble_eq_true rfl) (by decide) rfl (Nat.le_of_ble_eq_true rfl) (g_tok hw hb (t := b) htl4 (by omega) (fun σ g τ u hb hf hsf hub => ?_))
    have hq0 := ((hf _ _ _ hr).2 0 (fun q => by omega) id).trans hq0
    have hq1 := ((hf _ _ _ hr).2 1 (fun q => by omega) id).trans hq1
    have hq2 := ((hf _ _ _ hr).2 2 (fun q => by omega) id).trans hq2
    have hr := (hf _ _ _ hr).1
    have hS := P_gS_fr hf ⟨id, id⟩ (G_n5f (by omega)) hS
    have hIp := P_gRw_fr hf ⟨id, id⟩ (by omega) (G_n5f (by omega)) hIp
    have hC := P_gC_fr hf ⟨id, id, id⟩ (G_n5f (by omega)) hC
    obtain ⟨tk, htq⟩ : ∃ x, x = tk ++ [b] := ⟨_, rfl⟩
    rw [← htq] at hb
    have htl := congrArg List.length htq
    simp only [List.length_append, List.length_cons, List.length_nil] at htl
    rw [htk] at htq
    have htk := htq
    have hst := G_tf_tr hst hsf
    obtain ⟨K, hKq⟩ : ∃ x, x = N := ⟨_, rfl⟩
    rw [← hKq] at hb
    refine P_gw_re (Pr := fun g' τ' N' u' => g = g' ∧ τ = τ' ∧ u = u' ∧ N < N') ⟨rfl, rfl, rfl, by omega⟩ (fun g1 τ1 N u1 hre => ?_)
    obtain ⟨rfl, rfl, rfl, hNN⟩ := hre
    refine P_gw_lts (fun hlt => ?_)
    obtain ⟨hT, hL, hK, hct, hTK, h0, hs1, hdr2⟩ := id hb
    have hlG := hlt _ _ _ hT.1.1
    show P_gw _ _ 420 [.ref G, P_z ig, P_z my, P_z k, .ref r0, P_un] [P_z 1] _ _ _ _ _ _ _
    refine P_gw_izf P_i192_420 ⟨by decide, by decide⟩ (P_ci_eqf (by omega)) (show P_gw _ _ 423 [.ref G, P_z ig, P_z my, P_z k, .ref r0, P_un] [] _ _ _ _ _ _ _ from ?_)
    refine P_gw_op (L' := [.ref G, P_z ig, P_z my, P_z k, .ref r0, P_un]) (st' := [.ref G]) P_i192_423 rfl (show P_gw _ _ 424 [.ref G, P_z ig, P_z my, P_z k, .ref r0, P_un] [.ref G] _ _ _ _ _ _ _ from ?_)
    refine P_gw_op (L' := [.ref G, P_z ig, P_z my, P_z k, .ref r0, P_un]) (st' := [.ref r0, .ref G]) P_i192_424 rfl (show P_gw _ _ 426 [.ref G, P_z ig, P_z my, P_z k, .ref r0, P_un] [.ref r0, .ref G] _ _ _ _ _ _ _ from ?_)
    refine P_gw_op (L' := [.ref G, P_z ig, P_z my, P_z k, .ref r0, P_un]) (st' := [P_z 2, .ref r0, .ref G]) P_i192_426 rfl (show P_gw _ _ 427 [.ref G, P_z ig, P_z my, P_z k, .ref r0, P_un] [P_z 2, .ref r0, .ref G] _ _ _ _ _ _ _ from ?_)
    refine P_gw_ald P_i192_427 (hr) (by omega) (by omega) (by omega) (hq2) (show P_gw _ _ 428 [.ref G, P_z ig, P_z my, P_z k, .ref r0, P_un] [P_z c, .ref G] _ _ _ _ _ _ _ from ?_)
    have htl5 : tk.length < 40 := by omega
    refine P_gw_call P_i192_428 rfl rfl (fun _ => rfl) rfl rfl rfl rfl (y2 := 190) (as := [.ref G, P_z c]) (r0 := []) (P_ginv_v (hT.1.1) rfl rfl) (Nat.le_of_ble_eq_true rfl) (by decide) rfl (Nat.le_of_ble_eq_true rfl) (g_tok hw hb (t := c) htl5 (by omega) (fun σ g τ u hb hf hsf hub => ?_))
    have hq0 := ((hf _ _ _ hr).2 0 (fun q => by omega) id).trans hq0
    have hq1 := ((hf _ _ _ hr).2 1 (fun q => by omega) id).trans hq1
    have hq2 := ((hf _ _ _ hr).2 2 (fun q => by omega) id).trans hq2
    have hr := (hf _ _ _ hr).1
    have hS := P_gS_fr hf ⟨id, id⟩ (G_n5f (by omega)) hS
    have hIp := P_gRw_fr hf ⟨id, id⟩ (by omega) (G_n5f (by omega)) hIp
    have hC := P_gC_fr hf ⟨id, id, id⟩ (G_n5f (by omega)) hC
    obtain ⟨tk, htq⟩ : ∃ x, x = tk ++ [c] := ⟨_, rfl⟩
    rw [← htq] at hb
    have htl := congrArg List.length htq
    simp only [List.length_append, List.length_cons, List.length_nil] at htl
    rw [htk] at htq
    have htk := htq
    have hst := G_tf_tr hst hsf
    obtain ⟨K, hKq⟩ : ∃ x, x = N := ⟨_, rfl⟩
    rw [← hKq] at hb
    refine P_gw_re (Pr := fun g' τ' N' u' => g = g' ∧ τ = τ' ∧ u = u' ∧ N < N') ⟨rfl, rfl, rfl, by omega⟩ (fun g1 τ1 N u1 hre => ?_)
    obtain ⟨rfl, rfl, rfl, hNN⟩ := hre
    refine P_gw_lts (fun hlt => ?_)
    obtain ⟨hT, hL, hK, hct, hTK, h0, hs1, hdr2⟩ := id hb
    have hlG := hlt _ _ _ hT.1.1
    show P_gw _ _ 431 [.ref G, P_z ig, P_z my, P_z k, .ref r0, P_un] [P_z 1] _ _ _ _ _ _ _
    refine P_gw_izt P_i192_431 ⟨by decide, by decide⟩ (P_ci_net (by omega)) (show P_gw _ _ 436 [.ref G, P_z ig, P_z my, P_z k, .ref r0, P_un] [] _ _ _ _ _ _ _ from ?_)
    refine P_gw_op (L' := [.ref G, P_z ig, P_z my, P_z (k + 1), .ref r0, P_un]) (st' := []) P_i192_436 (P_o_iinc rfl) (show P_gw _ _ 439 [.ref G, P_z ig, P_z my, P_z (k + 1), .ref r0, P_un] [] _ _ _ _ _ _ _ from ?_)
    refine P_gw_goto P_i192_439 (show P_gw _ _ 294 [.ref G, P_z ig, P_z my, P_z (k + 1), P_un, P_un] [] _ _ _ _ _ _ _ from ?_)
    exact q σ g τ _ u B ad K tk hb hS hIp hC (by rw [htk]; (first | rw [if_pos (by omega)] | rw [if_neg (by omega)]); simp [List.append_assoc]) hst (by omega)
  · refine P_gw_izt P_i192_387 ⟨by omega, by omega⟩ (P_ci_net (by omega)) (show P_gw _ _ 394 [.ref G, P_z ig, P_z my, P_z k, .ref r0, P_un] [.ref G] _ _ _ _ _ _ _ from ?_)
    refine P_gw_op (L' := [.ref G, P_z ig, P_z my, P_z k, .ref r0, P_un]) (st' := [P_z 3, .ref G]) P_i192_394 rfl (show P_gw _ _ 395 [.ref G, P_z ig, P_z my, P_z k, .ref r0, P_un] [P_z 3, .ref G] _ _ _ _ _ _ _ from ?_)
    have htl2 : tk.length < 40 := by omega
    refine P_gw_call P_i192_395 rfl rfl (fun _ => rfl) rfl rfl rfl rfl (y2 := 190) (as := [.ref G, P_z 3]) (r0 := []) (P_ginv_v (hT.1.1) rfl rfl) (Nat.le_of_ble_eq_true rfl) (by decide) rfl (Nat.le_of_ble_eq_true rfl) (g_tok hw hb (t := 3) htl2 (by omega) (fun σ g τ u hb hf hsf hub => ?_))
    have hq0 := ((hf _ _ _ hr).2 0 (fun q => by omega) id).trans hq0
    have hq1 := ((hf _ _ _ hr).2 1 (fun q => by omega) id).trans hq1
    have hq2 := ((hf _ _ _ hr).2 2 (fun q => by omega) id).trans hq2
    have hr := (hf _ _ _ hr).1
    have hS := P_gS_fr hf ⟨id, id⟩ (G_n5f (by omega)) hS
    have hIp := P_gRw_fr hf ⟨id, id⟩ (by omega) (G_n5f (by omega)) hIp
    have hC := P_gC_fr hf ⟨id, id, id⟩ (G_n5f (by omega)) hC
    obtain ⟨tk, htq⟩ : ∃ x, x = tk ++ [3] := ⟨_, rfl⟩
    rw [← htq] at hb
    have htl := congrArg List.length htq
    simp only [List.length_append, List.length_cons, List.length_nil] at htl
    rw [htk] at htq
    have htk := htq
    have hst := G_tf_tr hst hsf
    obtain ⟨K, hKq⟩ : ∃ x, x = N := ⟨_, rfl⟩
    rw [← hKq] at hb
    refine P_gw_re (Pr := fun g' τ' N' u' => g = g' ∧ τ = τ' ∧ u = u' ∧ N < N') ⟨rfl, rfl, rfl, by omega⟩ (fun g1 τ1 N u1 hre => ?_)
    obtain ⟨rfl, rfl, rfl, hNN⟩ := hre
    refine P_gw_lts (fun hlt => ?_)
    obtain ⟨hT, hL, hK, hct, hTK, h0, hs1, hdr2⟩ := id hb
    have hlG := hlt _ _ _ hT.1.1
    show P_gw _ _ 398 [.ref G, P_z ig, P_z my, P_z k, .ref r0, P_un] [P_z 1] _ _ _ _ _ _ _
    refine P_gw_izf P_i192_398 ⟨by decide, by decide⟩ (P_ci_eqf (by omega)) (show P_gw _ _ 401 [.ref G, P_z ig, P_z my, P_z k, .ref r0, P_un] [] _ _ _ _ _ _ _ from ?_)
    refine P_gw_op (L' := [.ref G, P_z ig, P_z my, P_z k, .ref r0, P_un]) (st' := [.ref G]) P_i192_401 rfl (show P_gw _ _ 402 [.ref G, P_z ig, P_z my, P_z k, .ref r0, P_un] [.ref G] _ _ _ _ _ _ _ from ?_)
    refine P_gw_op (L' := [.ref G, P_z ig, P_z my, P_z k, .ref r0, P_un]) (st' := [.ref r0, .ref G]) P_i192_402 rfl (show P_gw _ _ 404 [.ref G, P_z ig, P_z my, P_z k, .ref r0, P_un] [.ref r0, .ref G] _ _ _ _ _ _ _ from ?_)
    refine P_gw_op (L' := [.ref G, P_z ig, P_z my, P_z k, .ref r0, P_un]) (st' := [P_z 0, .ref r0, .ref G]) P_i192_404 rfl (show P_gw _ _ 405 [.ref G, P_z ig, P_z my, P_z k, .ref r0, P_un] [P_z 0, .ref r0, .ref G] _ _ _ _ _ _ _ from ?_)
    refine P_gw_ald P_i192_405 (hr) (by omega) (by omega) (by omega) (hq0) (show P_gw _ _ 406 [.ref G, P_z ig, P_z my, P_z k, .ref r0, P_un] [P_z a, .ref G] _ _ _ _ _ _ _ from ?_)
    have htl3 : tk.length < 40 := by omega
    refine P_gw_call P_i192_406 rfl rfl (fun _ => rfl) rfl rfl rfl rfl (y2 := 190) (as := [.ref G, P_z a]) (r0 := []) (P_ginv_v (hT.1.1) rfl rfl) (Nat.le_of_ble_eq_true rfl) (by decide) rfl (Nat.le_of_ble_eq_true rfl) (g_tok hw hb (t := a) htl3 (by omega) (fun σ g τ u hb hf hsf hub => ?_))
    have hq0 := ((hf _ _ _ hr).2 0 (fun q => by omega) id).trans hq0
    have hq1 := ((hf _ _ _ hr).2 1 (fun q => by omega) id).trans hq1
    have hq2 := ((hf _ _ _ hr).2 2 (fun q => by omega) id).trans hq2
    have hr := (hf _ _ _ hr).1
    have hS := P_gS_fr hf ⟨id, id⟩ (G_n5f (by omega)) hS
    have hIp := P_gRw_fr hf ⟨id, id⟩ (by omega) (G_n5f (by omega)) hIp
    have hC := P_gC_fr hf ⟨id, id, id⟩ (G_n5f (by omega)) hC
    obtain ⟨tk, htq⟩ : ∃ x, x = tk ++ [a] := ⟨_, rfl⟩
    rw [← htq] at hb
    have htl := congrArg List.length htq
    simp only [List.length_append, List.length_cons, List.length_nil] at htl
    rw [htk] at htq
    have htk := htq
    have hst := G_tf_tr hst hsf
    obtain ⟨K, hKq⟩ : ∃ x, x = N := ⟨_, rfl⟩
    rw [← hKq] at hb
    refine P_gw_re (Pr := fun g' τ' N' u' => g = g' ∧ τ = τ' ∧ u = u' ∧ N < N') ⟨rfl, rfl, rfl, by omega⟩ (fun g1 τ1 N u1 hre => ?_)
    obtain ⟨rfl, rfl, rfl, hNN⟩ := hre
    refine P_gw_lts (fun hlt => ?_)
    obtain ⟨hT, hL, hK, hct, hTK, h0, hs1, hdr2⟩ := id hb
    have hlG := hlt _ _ _ hT.1.1
    show P_gw _ _ 409 [.ref G, P_z ig, P_z my, P_z k, .ref r0, P_un] [P_z 1] _ _ _ _ _ _ _
    refine P_gw_izf P_i192_409 ⟨by decide, by decide⟩ (P_ci_eqf (by omega)) (show P_gw _ _ 412 [.ref G, P_z ig, P_z my, P_z k, .ref r0, P_un] [] _ _ _ _ _ _ _ from ?_)
    refine P_gw_op (L' := [.ref G, P_z ig, P_z my, P_z k, .ref r0, P_un]) (st' := [.ref G]) P_i192_412 rfl (show P_gw _ _ 413 [.ref G, P_z ig, P_z my, P_z k, .ref r0, P_un] [.ref G] _ _ _ _ _ _ _ from ?_)
    refine P_gw_op (L' := [.ref G, P_z ig, P_z my, P_z k, .ref r0, P_un]) (st' := [.ref r0, .ref G]) P_i192_413 rfl (show P_gw _ _ 415 [.ref G, P_z ig, P_z my, P_z k, .ref r0, P_un] [.ref r0, .ref G] _ _ _ _ _ _ _ from ?_)
    refine P_gw_op (L' := [.ref G, P_z ig, P_z my, P_z k, .ref r0, P_un]) (st' := [P_z 1, .ref r0, .ref G]) P_i192_415 rfl (show P_gw _ _ 416 [.ref G, P_z ig, P_z my, P_z k, .ref r0, P_un] [P_z 1, .ref r0, .ref G] _ _ _ _ _ _ _ from ?_)
    refine P_gw_ald P_i192_416 (hr) (by omega) (by omega) (by omega) (hq1) (show P_gw _ _ 417 [.ref G, P_z ig, P_z my, P_z k, .ref r0, P_un] [P_z b, .ref G] _ _ _ _ _ _ _ from ?_)
    have htl4 : tk.length < 40 := by omega
    refine P_gw_call P_i192_417 rfl rfl (fun _ => rfl) rfl rfl rfl rfl (y2 := 190) (as := [.ref G, P_z b]) (r0 := []) (P_ginv_v (hT.1.1) rfl rfl) (Nat.le_of_ble_eq_true rfl) (by decide) rfl (Nat.le_of_ble_eq_true rfl) (g_tok hw hb (t := b) htl4 (by omega) (fun σ g τ u hb hf hsf hub => ?_))
    have hq0 := ((hf _ _ _ hr).2 0 (fun q => by omega) id).trans hq0
    have hq1 := ((hf _ _ _ hr).2 1 (fun q => by omega) id).trans hq1
    have hq2 := ((hf _ _ _ hr).2 2 (fun q => by omega) id).trans hq2
    have hr := (hf _ _ _ hr).1
    have hS := P_gS_fr hf ⟨id, id⟩ (G_n5f (by omega)) hS
    have hIp := P_gRw_fr hf ⟨id, id⟩ (by omega) (G_n5f (by omega)) hIp
    have hC := P_gC_fr hf ⟨id, id, id⟩ (G_n5f (by omega)) hC
    obtain ⟨tk, htq⟩ : ∃ x, x = tk ++ [b] := ⟨_, rfl⟩
    rw [← htq] at hb
    have htl := congrArg List.length htq
    simp only [List.length_append, List.length_cons, List.length_nil] at htl
    rw [htk] at htq
    have htk := htq
    have hst := G_tf_tr hst hsf
    obtain ⟨K, hKq⟩ : ∃ x, x = N := ⟨_, rfl⟩
    rw [← hKq] at hb
    refine P_gw_re (Pr := fun g' τ' N' u' => g = g' ∧ τ = τ' ∧ u = u' ∧ N < N') ⟨rfl, rfl, rfl, by omega⟩ (fun g1 τ1 N u1 hre => ?_)
    obtain ⟨rfl, rfl, rfl, hNN⟩ := hre
    refine P_gw_lts (fun hlt => ?_)
    obtain ⟨hT, hL, hK, hct, hTK, h0, hs1, hdr2⟩ := id hb
    have hlG := hlt _ _ _ hT.1.1
    show P_gw _ _ 420 [.ref G, P_z ig, P_z my, P_z k, .ref r0, P_un] [P_z 1] _ _ _ _ _ _ _
    refine P_gw_izf P_i192_420 ⟨by decide, by decide⟩ (P_ci_eqf (by omega)) (show P_gw _ _ 423 [.ref G, P_z ig, P_z my, P_z k, .ref r0, P_un] [] _ _ _ _ _ _ _ from ?_)
    refine P_gw_op (L' := [.ref G, P_z ig, P_z my, P_z k, .ref r0, P_un]) (st' := [.ref G]) P_i192_423 rfl (show P_gw _ _ 424 [.ref G, P_z ig, P_z my, P_z k, .ref r0, P_un] [.ref G] _ _ _ _ _ _ _ from ?_)
    refine P_gw_op (L' := [.ref G, P_z ig, P_z my, P_z k, .ref r0, P_un]) (st' := [.ref r0, .ref G]) P_i192_424 rfl (show P_gw _ _ 426 [.ref G, P_z ig, P_z my, P_z k, .ref r0, P_un] [.ref r0, .ref G] _ _ _ _ _ _ _ from ?_)
    refine P_gw_op (L' := [.ref G, P_z ig, P_z my, P_z k, .ref r0, P_un]) (st' := [P_z 2, .ref r0, .ref G]) P_i192_426 rfl (show P_gw _ _ 427 [.ref G, P_z ig, P_z my, P_z k, .ref r0, P_un] [P_z 2, .ref r0, .ref G] _ _ _ _ _ _ _ from ?_)
    refine P_gw_ald P_i192_427 (hr) (by omega) (by omega) (by omega) (hq2) (show P_gw _ _ 428 [.ref G, P_z ig, P_z my, P_z k, .ref r0, P_un] [P_z c, .ref G] _ _ _ _ _ _ _ from ?_)
    have htl5 : tk.length < 40 := by omega
    refine P_gw_call P_i192_428 rfl rfl (fun _ => rfl) rfl rfl rfl rfl (y2 := 190) (as := [.ref G, P_z c]) (r0 := []) (P_ginv_v (hT.1.1) rfl rfl) (Nat.le_of_ble_eq_true rfl) (by decide) rfl (Nat.le_of_ble_eq_true rfl) (g_tok hw hb (t := c) htl5 (by omega) (fun σ g τ u hb hf hsf hub => ?_))
    have hq0 := ((hf _ _ _ hr).2 0 (fun q => by omega) id).trans hq0
    have hq1 := ((hf _ _ _ hr).2 1 (fun q => by omega) id).trans hq1
    have hq2 := ((hf _ _ _ hr).2 2 (fun q => by omega) id).trans hq2
    have hr := (hf _ _ _ hr).1
    have hS := P_gS_fr hf ⟨id, id⟩ (G_n5f (by omega)) hS
    have hIp := P_gRw_fr hf ⟨id, id⟩ (by omega) (G_n5f (by omega)) hIp
    have hC := P_gC_fr hf ⟨id, id, id⟩ (G_n5f (by omega)) hC
    obtain ⟨tk, htq⟩ : ∃ x, x = tk ++ [c] := ⟨_, rfl⟩
    rw [← htq] at hb
    have htl := congrArg List.length htq
    simp only [List.length_append, List.length_cons, List.length_nil] at htl
    rw [htk] at htq
    have htk := htq
    have hst := G_tf_tr hst hsf
    obtain ⟨K, hKq⟩ : ∃ x, x = N := ⟨_, rfl⟩
    rw [← hKq] at hb
    refine P_gw_re (Pr := fun g' τ' N' u' => g = g' ∧ τ = τ' ∧ u = u' ∧ N < N') ⟨rfl, rfl, rfl, by omega⟩ (fun g1 τ1 N u1 hre => ?_)
    obtain ⟨rfl, rfl, rfl, hNN⟩ := hre
    refine P_gw_lts (fun hlt => ?_)
    obtain ⟨hT, hL, hK, hct, hTK, h0, hs1, hdr2⟩ := id hb
    have hlG := hlt _ _ _ hT.1.1
    show P_gw _ _ 431 [.ref G, P_z ig, P_z my, P_z k, .ref r0, P_un] [P_z 1] _ _ _ _ _ _ _
    refine P_gw_izt P_i192_431 ⟨by decide, by decide⟩ (P_ci_net (by omega)) (show P_gw _ _ 436 [.ref G, P_z ig, P_z my, P_z k, .ref r0, P_un] [] _ _ _ _ _ _ _ from ?_)
    refine P_gw_op (L' := [.ref G, P_z ig, P_z my, P_z (k + 1), .ref r0, P_un]) (st' := []) P_i192_436 (P_o_iinc rfl) (show P_gw _ _ 439 [.ref G, P_z ig, P_z my, P_z (k + 1), .ref r0, P_un] [] _ _ _ _ _ _ _ from ?_)
    refine P_gw_goto P_i192_439 (show P_gw _ _ 294 [.ref G, P_z ig, P_z my, P_z (k + 1), P_un, P_un] [] _ _ _ _ _ _ _ from ?_)
    exact q σ g τ _ u B ad K tk hb hS hIp hC (by rw [htk]; (first | rw [if_pos (by omega)] | rw [if_neg (by omega)]); simp [List.append_assoc]) hst (by omega)

theorem wr_Cz {d : Nat} {w : P_Lw} {σ : P_A} {g : P_Gl} {τ : P_A} {N u : Nat} {Q : P_GQ} {G : Nat} {ig my : Int} (hmy : 0 ≤ my ∧ my ≤ 5) (q : P_gw (d + 12) 192 442 [.ref G, P_z ig, P_z my, P_z my, P_un, P_un] [] w σ g τ N u Q) : P_gw (d + 12) 192 294 [.ref G, P_z ig, P_z my, P_z my, P_un, P_un] [] w σ g τ N u Q := by
  refine P_gw_op (L' := [.ref G, P_z ig, P_z my, P_z my, P_un, P_un]) (st' := [P_z my]) P_i192_294 rfl (show P_gw _ _ 295 [.ref G, P_z ig, P_z my, P_z my, P_un, P_un] [P_z my] _ _ _ _ _ _ _ from ?_)
  refine P_gw_op (L' := [.ref G, P_z ig, P_z my, P_z my, P_un, P_un]) (st' := [P_z my, P_z my]) P_i192_295 rfl (show P_gw _ _ 296 [.ref G, P_z ig, P_z my, P_z my, P_un, P_un] [P_z my, P_z my] _ _ _ _ _ _ _ from ?_)
  refine P_gw_ict P_i192_296 ⟨by omega, by omega⟩ ⟨by omega, by omega⟩ (P_ci_get (by omega)) (show P_gw _ _ 442 [.ref G, P_z ig, P_z my, P_z my, P_un, P_un] [] _ _ _ _ _ _ _ from ?_)
  exact q

theorem wr_C {d : Nat} {w : P_Lw} {Q : P_GQ} (hw : P_Cw w) {G T : Nat} {tt : Int → Nat} {rT : Int → Nat} {tr : Int → Int → Nat} {cT : Int → Nat} {VV : Int → Int → Int → Int} {L : Nat} {S nn : Nat} {sn : Int → Int} {I m : Nat} {gi : Int → Int} {σ0 : P_A} {ig : Int} {X : List Int} (hig : 0 ≤ ig ∧ ig ≤ 1) {my : Int} (hmy : 0 ≤ my ∧ my ≤ 5) : ∀ (n : Nat) (σ : P_A) (g : P_Gl) (τ : P_A) (N u B : Nat) (C : List A_cd) (ad : Int → Nat) (k dr : Int) (K : Nat) (tk : List Int), (G_Wb w σ g τ G T tt rT tr cT VV L K tk dr) → (P_gS g τ G S nn 3 sn) → (P_gRw g τ G 6 8 I m gi) → (P_gC g τ G B C ad) → (k = (C.length : Int)) → (∀ x ∈ C, P_gok nn sn cT x ∧ A_cf x 3 = (nn : Int) - 1) → (tk = X ++ A_cts C 2) → (tk.length ≤ 11 + 4 * C.length) → (G_tf σ0 σ) → (my = k + (n : Nat)) → (0 ≤ dr ∧ dr + 10 * (n : Nat) ≤ 899990) → (∀ σ' g' τ' N' u' B' C' ad' K' tk' dr' z1 z2, G_Wb w σ' g' τ' G T tt rT tr cT VV L K' tk' dr' → P_gS g' τ' G S nn 3 sn → P_gRw g' τ' G 6 8 I m gi → P_gC g' τ' G B' C' ad' → C'.length ≤ 5 → (∀ x ∈ C', P_gok nn sn cT x ∧ A_cf x 3 = (nn : Int) - 1) → tk' = X ++ A_cts C' 2 → G_tf σ0 σ' → tk'.length ≤ 11 + 4 * C'.length → u' ≤ u + 400 * n → dr ≤ dr' → dr' ≤ dr + 10 * (n : Nat) → P_gw (d + 12) 192 442 [.ref G, P_z ig, P_z z1, P_z z2, P_un, P_un] [] w σ' g' τ' N' u' Q) → P_gw (d + 12) 192 294 [.ref G, P_z ig, P_z my, P_z k, P_un, P_un] [] w σ g τ N u Q := by
  intro n
  induction n with
  | zero =>
    intro σ g τ N u B C ad k dr K tk hb hS hIp hC hk hCok htk htl hst hmk hdr q
    obtain rfl : my = k := by omega
    exact wr_Cz hmy (q σ g τ N u B C ad K tk dr _ _ hb hS hIp hC (by omega) hCok htk hst (by omega) (by omega) (by omega) (by omega))
  | succ n ih =>
    intro σ g τ N u B C ad k dr K tk hb hS hIp hC hk hCok htk htl hst hmk hdr q
    have hn1 := hS.2.2.1
    refine wr_Ca hw (X := X) (σ0 := σ0) hig hmy hb hS hIp hC hk (by omega) (by omega) (fun g1 τ1 N1 u1 r0 a b c dr1 hb1 hS1 hIp1 hC1 hne hr hq0 hq1 hq2 hq3 ha hbb hc e1 e2 e3 => ?_)
    have hc2 : (100 ≤ c ∧ c ≤ 199) ∨ 1000 ≤ c ∧ c ≤ 1999 := hc.imp (fun h => (P_gcol_v h).1) id
    refine wr_Cb hw (X := tk) (σ0 := σ0) hig hmy hb1 hS1 hIp1 hC1 hk hst hne hr hq0 hq1 hq2 hq3 (P_gcol_v ha).1 hbb hc2 rfl (by omega) (by omega) (fun σ2 g2 τ2 N2 u2 B2 ad2 K2 tk2 hb2 hS2 hIp2 hC2 ht2 hf2 e4 => ?_)
    have hl2 := congrArg List.length ht2
    simp only [List.length_append, List.length_cons, List.length_nil] at hl2
    have hCl : (C ++ [(a, b, c, (nn : Int) - 1)]).length = C.length + 1 := by rw [List.length_append]; rfl
    refine ih σ2 g2 τ2 N2 u2 B2 (C ++ [(a, b, c, (nn : Int) - 1)]) ad2 (k + 1) dr1 K2 tk2 hb2 hS2 hIp2 hC2 (by rw [hCl]; omega) (fun x hx => ?_) (by rw [ht2, htk, G_cts_add, List.append_assoc]) (by rw [hCl]; omega) hf2 (by omega) (by omega) (fun σ3 g3 τ3 N3 u3 B3 C3 ad3 K3 tk3 dr3 z1 z2 a1 a2 a3 a4 a5 a6 a7 a8 a9 a10 a11 a12 => q σ3 g3 τ3 N3 u3 B3 C3 ad3 K3 tk3 dr3 z1 z2 a1 a2 a3 a4 a5 a6 a7 a8 a9 (by omega) (by omega) (by omega))
    rcases List.mem_append.mp hx with e | e
    · exact hCok x e
    · rw [List.mem_singleton.mp e]
      exact ⟨G_ok_mk ha hbb hc (by omega), rfl⟩