/-! the law's own methods, written by wip/g1.py: 92b.tok -/
/-- Grove's tokens: how many; its columns -/
def P_gK (g : P_Gl) (τ : P_A) (G K n : Nat) : Prop := P_gf g τ G 5 K ∧ g K = some (11, .inr (.inl n))
def P_gL (g : P_Gl) (τ : P_A) (G L nt : Nat) (cT : Int → Nat) : Prop := P_gf g τ G 4 L ∧ g L = some (10, .inr (.inl nt)) ∧ ∀ t, 0 ≤ t → t < (nt : Int) → τ L t.toNat = (cT t : Int) ∧ 1 ≤ (cT t : Int) ∧ (cT t : Int) ≤ 3
theorem P_gK_fr {R F : Nat → Prop} {g g' : P_Gl} {τ τ' : P_A} {G K n : Nat} (h : G_fr R F g τ g' τ') (hR : ¬ R 1) (hF : ¬ F 5) (hK : P_gK g τ G K n) : P_gK g' τ' G K n := ⟨P_gf_fr h hR hF hK.1, (h _ _ _ hK.2).1⟩
theorem P_gL_fr {R F : Nat → Prop} {g g' : P_Gl} {τ τ' : P_A} {G L nt : Nat} {cT : Int → Nat} (h : G_fr R F g τ g' τ') (hR : ¬ R 1 ∧ ¬ R 10) (hF : ¬ F 4) (hL : P_gL g τ G L nt cT) : P_gL g' τ' G L nt cT := ⟨P_gf_fr h hR.1 hF hL.1, (h _ _ _ hL.2.1).1, fun t a b => ⟨((h _ _ _ hL.2.1).2 _ (fun q => by omega) hR.2).trans (hL.2.2 t a b).1, (hL.2.2 t a b).2⟩⟩
/-- the class's tokens -/
def G_TK (σ : P_A) (tk : List Int) : Prop := σ 29 4 = (tk.length : Int) ∧ ∀ j : Nat, j < tk.length → σ 30 j = tk.getD j 0
def G_tf (σ σ' : P_A) : Prop := ∀ a b, a ≠ 29 → a ≠ 30 → a ≠ 44 → ¬ (a = 31 ∧ b = 16) → σ' a b = σ a b
theorem G_tf_rf {σ : P_A} : G_tf σ σ := fun _ _ _ _ _ _ => rfl
theorem G_tf_tr {σ σ1 σ2 : P_A} (h : G_tf σ σ1) (h2 : G_tf σ1 σ2) : G_tf σ σ2 := fun a b x y z u => (h2 a b x y z u).trans (h a b x y z u)
theorem G_TK_add {σ σ' : P_A} {tk : List Int} {t : Int} (h : G_TK σ tk) (h4 : σ' 29 4 = (tk.length : Int) + 1) (ht : σ' 30 tk.length = t) (hne : ∀ j, j ≠ tk.length → σ' 30 j = σ 30 j) : G_TK σ' (tk ++ [t]) := by
  refine ⟨by rw [h4]; simp, fun j hj => ?_⟩
  simp only [List.length_append, List.length_cons, List.length_nil] at hj
  rw [List.getD_eq_getElem?_getD]
  by_cases e : j = tk.length
  · subst e
    rw [ht]
    simp
  · rw [hne j e, h.2 j (by omega), List.getElem?_append_left (by omega), List.getD_eq_getElem?_getD]
theorem G_tk_cls {σ : P_A} {tk : List Int} {t : Int} (hK : G_TK σ tk) : G_TK (A_oth (P_u2 (P_u2 (P_u2 (P_u2 σ 30 ((tk.length : Int)).toNat t) 29 4 ((tk.length : Int) + 1)) 29 5 0) 29 7 (-1))) (tk ++ [t]) ∧ G_tf σ (A_oth (P_u2 (P_u2 (P_u2 (P_u2 σ 30 ((tk.length : Int)).toNat t) 29 4 ((tk.length : Int) + 1)) 29 5 0) 29 7 (-1))) := by
  refine ⟨G_TK_add hK ?_ ?_ (fun j hj => ?_), fun a b x y z u => ?_⟩
  · rw [A_oth_ne (by omega) (by omega), P_u2_ne (by omega), P_u2_ne (by omega)]; exact P_u2_at
  · rw [A_oth_ne (by omega) (by omega), P_u2_ne (by omega), P_u2_ne (by omega), P_u2_ne (by omega), Int.toNat_natCast]; exact P_u2_at
  · rw [A_oth_ne (by omega) (by omega), P_u2_ne (by omega), P_u2_ne (by omega), P_u2_ne (by omega), P_u2_ne (by omega)]
  · rw [A_oth_ne z u, P_u2_ne (by omega), P_u2_ne (by omega), P_u2_ne (by omega), P_u2_ne (by omega)]
theorem G_s_tok {w : P_Lw} (hw : P_Cw w) {d : Nat} {Q : P_R → P_A → Prop} {σ : P_A} {tk : List Int} {t : Int} (hK : G_TK σ tk) (hl : tk.length < 40) (ht : 0 ≤ t ∧ t ≤ 11 ∨ 20 ≤ t ∧ t ≤ 24 ∨ 100 ≤ t ∧ t ≤ 199 ∨ 1000 ≤ t ∧ t ≤ 1999) (q : ∀ σ', G_TK σ' (tk ++ [t]) → G_tf σ σ' → Q (.inl (some (P_z ((tk.length : Int) + 1)))) σ') : P_aw w (d + 5) 141 0 [.ref (w.2.2 0), P_z t] [] σ Q := by
  have h := G_tk_cls (t := t) hK
  rcases ht with ht | ht | ht | ht
  · exact s_toka hw hK.1 (by omega) ht (q _ h.1 h.2)
  · exact s_tokb hw hK.1 (by omega) ht (q _ h.1 h.2)
  · exact s_tokc hw hK.1 (by omega) ht (q _ h.1 h.2)
  · exact s_tokd hw hK.1 (by omega) ht (q _ h.1 h.2)
theorem G_s_clr {w : P_Lw} (hw : P_Cw w) {d : Nat} {Q : P_R → P_A → Prop} {σ : P_A} {tk : List Int} (hK : G_TK σ tk) (q : ∀ σ', G_TK σ' [] → G_tf σ σ' → Q (.inl (some (P_z (tk.length : Int)))) σ') : P_aw w (d + 5) 142 0 [.ref (w.2.2 0), P_un] [] σ Q :=
  s_clr hw hK.1 (q _ ⟨by rw [A_oth_ne (by omega) (by omega), P_u2_ne (by omega), P_u2_ne (by omega)]; exact P_u2_at, fun j hj => absurd hj (Nat.not_lt_zero _)⟩ (fun a b x y z u => by rw [A_oth_ne z u, P_u2_ne (by omega), P_u2_ne (by omega), P_u2_ne (by omega)]))
theorem G_col_mk {nn : Nat} {sn : Int → Int} {cT : Int → Nat} {a b : Int} (ha : 0 ≤ a ∧ a < (nn : Int)) (hn : nn ≤ 3) (hb : 0 ≤ b ∧ b < (cT (sn a) : Int)) (h3 : (cT (sn a) : Int) ≤ 3) : P_gcol nn sn cT (100 + (10 * a) + b) := by
  have e1 : (100 + (10 * a) + b - 100) / 10 = a := by omega
  have e2 : (100 + (10 * a) + b - 100) % 10 = b := by omega
  refine ⟨⟨by omega, by omega, by rw [e1]; omega, by rw [e2]; omega⟩, ?_⟩
  rw [e1, e2]
  exact hb.2
/-- what stands while a query is written -/
def G_Wb (w : P_Lw) (σ : P_A) (g : P_Gl) (τ : P_A) (G T : Nat) (tt : Int → Nat) (rT : Int → Nat) (tr : Int → Int → Nat) (cT : Int → Nat) (VV : Int → Int → Int → Int) (L K : Nat) (tk : List Int) (dr : Int) : Prop :=
  P_gT g τ G T 3 tt rT tr cT VV ∧ P_gL g τ G L 3 cT ∧ P_gK g τ G K tk.length ∧ G_ct w σ 3 rT cT VV ∧ G_TK σ tk ∧ τ G 0 = ((w.2.2 0 : Nat) : Int) ∧ τ G 1 = ((0 : Nat) : Int) ∧ τ G 2 = dr
theorem G_Wb_fr {R F : Nat → Prop} {w : P_Lw} {σ : P_A} {g g' : P_Gl} {τ τ' : P_A} {G T : Nat} {tt : Int → Nat} {rT : Int → Nat} {tr : Int → Int → Nat} {cT : Int → Nat} {VV : Int → Int → Int → Int} {L K : Nat} {tk : List Int} {dr dr' : Int} (hf : G_fr R F g τ g' τ') (hR : ∀ r, R r → r = 5 ∨ r = 6 ∨ r = 7 ∨ r = 8 ∨ r = 9) (hF : ∀ j, F j → j = 2 ∨ 6 ≤ j) (h2 : τ' G 2 = dr') (h : G_Wb w σ g τ G T tt rT tr cT VV L K tk dr) : G_Wb w σ g' τ' G T tt rT tr cT VV L K tk dr' := by
  obtain ⟨h1, h3, h4, h5, h6, h7, h8, h9⟩ := h
  have nR : ∀ r, (r < 5 ∨ 9 < r) → ¬ R r := fun r a q => by have := hR r q; omega
  have nF : ∀ j, j ≠ 2 → j < 6 → ¬ F j := fun j a b q => by have := hF j q; omega
  exact ⟨P_gT_fr hf (fun r a b => nR r (by omega)) (nF _ (by omega) (by omega)) h1, P_gL_fr hf ⟨nR _ (by omega), nR _ (by omega)⟩ (nF _ (by omega) (by omega)) h3, P_gK_fr hf (nR _ (by omega)) (nF _ (by omega) (by omega)) h4, h5, h6, ((hf _ _ _ h1.1.1).2 0 (fun _ => nF _ (by omega) (by omega)) (nR _ (by omega))).trans h7, ((hf _ _ _ h1.1.1).2 1 (fun _ => nF _ (by omega) (by omega)) (nR _ (by omega))).trans h8, h2⟩
def G_5f (j : Nat) : Prop := j = 5
theorem G_Wb_tok {w : P_Lw} {σ σ' : P_A} {g g' : P_Gl} {τ τ' : P_A} {G T : Nat} {tt : Int → Nat} {rT : Int → Nat} {tr : Int → Int → Nat} {cT : Int → Nat} {VV : Int → Int → Int → Int} {L K K' : Nat} {tk tk' : List Int} {dr : Int} (hf : G_fr G_0 G_5f g τ g' τ') (hs : G_tf σ σ') (hK : P_gK g' τ' G K' tk'.length) (ht : G_TK σ' tk') (h : G_Wb w σ g τ G T tt rT tr cT VV L K tk dr) : G_Wb w σ' g' τ' G T tt rT tr cT VV L K' tk' dr := by
  obtain ⟨h1, h3, h4, h5, h6, h7, h8, h9⟩ := h
  have nF : ∀ j, j ≠ 5 → ¬ G_5f j := fun j a => a
  exact ⟨P_gT_fr hf (fun r a b => id) (nF _ (by omega)) h1, P_gL_fr hf ⟨id, id⟩ (nF _ (by omega)) h3, hK, G_tab_cg (fun a b h => hs a b (by omega) (by omega) (by omega) (by omega)) h5, ht, ((hf _ _ _ h1.1.1).2 0 (fun _ => nF _ (by omega)) id).trans h7, ((hf _ _ _ h1.1.1).2 1 (fun _ => nF _ (by omega)) id).trans h8, ((hf _ _ _ h1.1.1).2 2 (fun _ => nF _ (by omega)) id).trans h9⟩
theorem P_gw_re {d y pc : Nat} {L st : List Value} {w : P_Lw} {σ : P_A} {g : P_Gl} {τ : P_A} {N u : Nat} {Q : P_GQ} {Pr : P_Gl → P_A → Nat → Nat → Prop} (h : Pr g τ N u) (k : ∀ g τ N u, Pr g τ N u → P_gw d y pc L st w σ g τ N u Q) : P_gw d y pc L st w σ g τ N u Q := k g τ N u h
theorem g_tok {d : Nat} {w : P_Lw} {σ : P_A} {g : P_Gl} {τ : P_A} {N u : Nat} {Q : P_GQ} (hw : P_Cw w) {G : Nat} {T : Nat} {tt : Int → Nat} {rT : Int → Nat} {tr : Int → Int → Nat} {cT : Int → Nat} {VV : Int → Int → Int → Int} {L K : Nat} {tk : List Int} {dr : Int} (hb : G_Wb w σ g τ G T tt rT tr cT VV L K tk dr) {t : Int} (hl : tk.length < 40) (ht : 0 ≤ t ∧ t ≤ 11 ∨ 20 ≤ t ∧ t ≤ 24 ∨ 100 ≤ t ∧ t ≤ 199 ∨ 1000 ≤ t ∧ t ≤ 1999) (q : ∀ σ' g' τ' u', G_Wb w σ' g' τ' G T tt rT tr cT VV L N (tk ++ [t]) dr → G_fr G_0 G_5f g τ g' τ' → G_tf σ σ' → u' ≤ u + 45 → Q (.inl (some (P_z 1))) w σ' g' τ' (N + 1) u') : P_gw (d + 7) 190 0 [.ref G, P_z t] [] w σ g τ N u Q := by
  refine P_gw_lts (fun hlt => ?_)
  obtain ⟨hT, hL, hK, hct, hTK, h0, hs1, hdr2⟩ := id hb
  have hlG := hlt _ _ _ hT.1.1
  refine P_gw_op (L' := [.ref G, P_z t]) (st' := [.ref G]) P_i190_0 rfl (show P_gw _ _ 1 [.ref G, P_z t] [.ref G] _ _ _ _ _ _ _ from ?_)
  refine P_gw_op (L' := [.ref G, P_z t]) (st' := [.ref G, .ref G]) P_i190_1 rfl (show P_gw _ _ 2 [.ref G, P_z t] [.ref G, .ref G] _ _ _ _ _ _ _ from ?_)
  refine P_gw_getR (P_i190_2) (hT.1.1) rfl rfl (hK.1.2) (show P_gw _ _ 5 [.ref G, P_z t] [.ref K, .ref G] _ _ _ _ _ _ _ from ?_)
  refine P_gw_op (L' := [.ref G, P_z t]) (st' := [P_z t, .ref K, .ref G]) P_i190_5 rfl (show P_gw _ _ 6 [.ref G, P_z t] [P_z t, .ref K, .ref G] _ _ _ _ _ _ _ from ?_)
  refine P_gw_call P_i190_6 rfl rfl (fun _ => rfl) rfl rfl rfl rfl (y2 := 183) (as := [.ref K, P_z t]) (r0 := [.ref G]) (fun _ _ => rfl) (Nat.le_of_ble_eq_true rfl) (by decide) rfl (Nat.le_of_ble_eq_true rfl) (s_plus 11 hK.2 (by omega) (fun g' τ' u' hx hN h1 h2 hu => ?_))
  show P_gw _ _ 9 [.ref G, P_z t] [.ref N, .ref G] _ _ _ _ _ _ _
  refine P_gw_putR (b := N) P_i190_9 (((hx G (by omega)).1).trans (hT.1.1)) rfl rfl (fun _ => rfl) (show P_gw _ _ 12 [.ref G, P_z t] [] _ _ _ _ _ _ _ from ?_)
  refine P_gw_op (L' := [.ref G, P_z t]) (st' := [.ref G]) P_i190_12 rfl (show P_gw _ _ 13 [.ref G, P_z t] [.ref G] _ _ _ _ _ _ _ from ?_)
  refine P_gw_getR (P_i190_13) (((hx G (by omega)).1).trans (hT.1.1)) rfl rfl ((P_u2_ne (by omega)).trans (((hx G (by omega)).2 0).trans (h0))) (show P_gw _ _ 16 [.ref G, P_z t] [.ref (w.2.2 0)] _ _ _ _ _ _ _ from ?_)
  refine P_gw_op (L' := [.ref G, P_z t]) (st' := [P_z t, .ref (w.2.2 0)]) P_i190_16 rfl (show P_gw _ _ 17 [.ref G, P_z t] [P_z t, .ref (w.2.2 0)] _ _ _ _ _ _ _ from ?_)
  refine P_gw_cls P_i190_17 rfl rfl (fun _ => rfl) rfl rfl rfl rfl (y2 := 141) (as := [.ref (w.2.2 0), P_z t]) (r0 := []) (P_inv_v (hw.2.1 0 (by decide)) (hw.s rfl) rfl rfl) (Nat.le_of_ble_eq_true rfl) (by decide) rfl (Nat.le_of_ble_eq_true rfl) (G_s_tok hw hTK (by omega) ht (fun σ' hTK' hsf => ?_))
  show P_gw _ _ 20 [.ref G, P_z t] [P_z (((tk.length : Nat) : Int) + 1)] _ _ _ _ _ _ _
  refine P_gw_op (L' := [.ref G, P_z t]) (st' := [.ref G, P_z (((tk.length : Nat) : Int) + 1)]) P_i190_20 rfl (show P_gw _ _ 21 [.ref G, P_z t] [.ref G, P_z (((tk.length : Nat) : Int) + 1)] _ _ _ _ _ _ _ from ?_)
  refine P_gw_getR (P_i190_21) (((hx G (by omega)).1).trans (hT.1.1)) rfl rfl (P_u2_at) (show P_gw _ _ 24 [.ref G, P_z t] [.ref N, P_z (((tk.length : Nat) : Int) + 1)] _ _ _ _ _ _ _ from ?_)
  refine P_gw_alen P_i190_24 (hN) (show P_gw _ _ 25 [.ref G, P_z t] [P_z ((tk.length + 1 : Nat) : Int), P_z (((tk.length : Nat) : Int) + 1)] _ _ _ _ _ _ _ from ?_)
  refine P_gw_icf P_i190_25 ⟨by omega, by omega⟩ ⟨by omega, by omega⟩ (P_ci_nef (by omega)) (show P_gw _ _ 28 [.ref G, P_z t] [] _ _ _ _ _ _ _ from ?_)
  refine P_gw_op (L' := [.ref G, P_z t]) (st' := [P_z 1]) P_i190_28 rfl (show P_gw _ _ 29 [.ref G, P_z t] [P_z 1] _ _ _ _ _ _ _ from ?_)
  refine P_gw_goto P_i190_29 (show P_gw _ _ 33 [.ref G, P_z t] [P_z 1] _ _ _ _ _ _ _ from ?_)
  refine P_gw_end P_i190_33 rfl rfl (fun _ => rfl) rfl ?_
  have hf : G_fr G_0 G_5f g τ g' (P_u2 τ' G 5 (N : Int)) := G_fr_tr (G_fr_xt hlt hx) (G_fr_f ((hx G (by omega)).1.trans hT.1.1) rfl)
  exact q σ' g' _ u' (G_Wb_tok hf hsf ⟨⟨(hx G (by omega)).1.trans hT.1.1, P_u2_at⟩, by rw [List.length_append]; exact hN⟩ hTK' hb) hf hsf (by omega)

theorem g_drw {d : Nat} {w : P_Lw} {σ : P_A} {g : P_Gl} {τ : P_A} {N u : Nat} {Q : P_GQ} {G : Nat} (hG : g G = some (1, .inl (11, [true, true, false, true, true, true, true, true, false, false, false, true, true, false, false, false]))) (hs1 : τ G 1 = ((0 : Nat) : Int)) {dr n : Int} (hdr2 : τ G 2 = dr) (hdr : 0 ≤ dr ∧ dr ≤ 999000) (hn : 1 ≤ n ∧ n ≤ 2147483647) (q : ∀ v τ' dr', 0 ≤ v → v < n → G_fr G_0 G_2 g τ g τ' → dr' = dr + 1 → τ' G 2 = dr' → Q (.inl (some (P_z v))) w σ g τ' N u) : P_gw (d + 3) 182 0 [.ref G, P_z n, P_un] [] w σ g τ N u Q :=
  s_draw hG hs1 hdr2 (by omega) hn (fun v h0 h1 => q v _ _ h0 h1 (G_fr_f hG rfl) rfl P_u2_at)
theorem g_col {d : Nat} {w : P_Lw} {σ : P_A} {g : P_Gl} {τ : P_A} {N u : Nat} {Q : P_GQ} {G : Nat} {T : Nat} {tt : Int → Nat} {rT : Int → Nat} {tr : Int → Int → Nat} {cT : Int → Nat} {VV : Int → Int → Int → Int} {L K : Nat} {tk : List Int} {dr : Int} (hb : G_Wb w σ g τ G T tt rT tr cT VV L K tk dr) {S nn : Nat} {sn : Int → Int} (hS : P_gS g τ G S nn 3 sn) (hdr : 0 ≤ dr ∧ dr ≤ 999000) (q : ∀ v τ' dr', P_gcol nn sn cT v → G_fr G_0 G_2 g τ g τ' → dr' = dr + 2 → τ' G 2 = dr' → Q (.inl (some (P_z v))) w σ g τ' N u) : P_gw (d + 5) 191 0 [.ref G, P_un] [] w σ g τ N u Q := by
  obtain ⟨hT, hL, hK, hct, hTK, h0, hs1, hdr2⟩ := id hb
  have hn1 := hS.2.2.1
  have hGS : S ≠ G := fun e => by have h := hS.2.1; rw [e] at h; cases h.symm.trans hT.1.1
  have hGL : L ≠ G := fun e => by have h := hL.2.1; rw [e] at h; cases h.symm.trans hT.1.1
  refine P_gw_op (L' := [.ref G, P_un]) (st' := [.ref G]) P_i191_0 rfl (show P_gw _ _ 1 [.ref G, P_un] [.ref G] _ _ _ _ _ _ _ from ?_)
  refine P_gw_op (L' := [.ref G, P_un]) (st' := [.ref G, .ref G]) P_i191_1 rfl (show P_gw _ _ 2 [.ref G, P_un] [.ref G, .ref G] _ _ _ _ _ _ _ from ?_)
  refine P_gw_getR (P_i191_2) (hT.1.1) rfl rfl (hS.1.2) (show P_gw _ _ 5 [.ref G, P_un] [.ref S, .ref G] _ _ _ _ _ _ _ from ?_)
  refine P_gw_alen P_i191_5 (hS.2.1) (show P_gw _ _ 6 [.ref G, P_un] [P_z ((nn : Nat) : Int), .ref G] _ _ _ _ _ _ _ from ?_)
  refine P_gw_call P_i191_6 rfl rfl (fun _ => rfl) rfl rfl rfl rfl (y2 := 182) (as := [.ref G, P_z ((nn : Nat) : Int)]) (r0 := []) (P_ginv_v (hT.1.1) rfl rfl) (Nat.le_of_ble_eq_true rfl) (by decide) rfl (Nat.le_of_ble_eq_true rfl) (s_draw (hT.1.1) (hs1) (hdr2) (by omega) (by omega) (fun v1 hv1a hv1b => ?_))
  show P_gw _ _ 9 [.ref G, P_un] [P_z v1] _ _ _ _ _ _ _
  refine P_gw_op (L' := [.ref G, P_z v1]) (st' := []) P_i191_9 rfl (show P_gw _ _ 10 [.ref G, P_z v1] [] _ _ _ _ _ _ _ from ?_)
  refine P_gw_op (L' := [.ref G, P_z v1]) (st' := [P_z 100]) P_i191_10 (P_o_bi (by decide)) (show P_gw _ _ 12 [.ref G, P_z v1] [P_z 100] _ _ _ _ _ _ _ from ?_)
  refine P_gw_op (L' := [.ref G, P_z v1]) (st' := [P_z 10, P_z 100]) P_i191_12 (P_o_bi (by decide)) (show P_gw _ _ 14 [.ref G, P_z v1] [P_z 10, P_z 100] _ _ _ _ _ _ _ from ?_)
  refine P_gw_op (L' := [.ref G, P_z v1]) (st' := [P_z v1, P_z 10, P_z 100]) P_i191_14 rfl (show P_gw _ _ 15 [.ref G, P_z v1] [P_z v1, P_z 10, P_z 100] _ _ _ _ _ _ _ from ?_)
  refine P_gw_op (L' := [.ref G, P_z v1]) (st' := [P_z (10 * v1), P_z 100]) P_i191_15 P_o_imul (show P_gw _ _ 16 [.ref G, P_z v1] [P_z (10 * v1), P_z 100] _ _ _ _ _ _ _ from ?_)
  refine P_gw_op (L' := [.ref G, P_z v1]) (st' := [P_z (100 + (10 * v1))]) P_i191_16 P_o_iadd (show P_gw _ _ 17 [.ref G, P_z v1] [P_z (100 + (10 * v1))] _ _ _ _ _ _ _ from ?_)
  refine P_gw_op (L' := [.ref G, P_z v1]) (st' := [.ref G, P_z (100 + (10 * v1))]) P_i191_17 rfl (show P_gw _ _ 18 [.ref G, P_z v1] [.ref G, P_z (100 + (10 * v1))] _ _ _ _ _ _ _ from ?_)
  refine P_gw_op (L' := [.ref G, P_z v1]) (st' := [.ref G, .ref G, P_z (100 + (10 * v1))]) P_i191_18 rfl (show P_gw _ _ 19 [.ref G, P_z v1] [.ref G, .ref G, P_z (100 + (10 * v1))] _ _ _ _ _ _ _ from ?_)
  refine P_gw_getR (P_i191_19) (hT.1.1) rfl rfl ((P_u2_ne (by omega)).trans (hL.1.2)) (show P_gw _ _ 22 [.ref G, P_z v1] [.ref L, .ref G, P_z (100 + (10 * v1))] _ _ _ _ _ _ _ from ?_)
  refine P_gw_op (L' := [.ref G, P_z v1]) (st' := [.ref G, .ref L, .ref G, P_z (100 + (10 * v1))]) P_i191_22 rfl (show P_gw _ _ 23 [.ref G, P_z v1] [.ref G, .ref L, .ref G, P_z (100 + (10 * v1))] _ _ _ _ _ _ _ from ?_)
  refine P_gw_getR (P_i191_23) (hT.1.1) rfl rfl ((P_u2_ne (by omega)).trans (hS.1.2)) (show P_gw _ _ 26 [.ref G, P_z v1] [.ref S, .ref L, .ref G, P_z (100 + (10 * v1))] _ _ _ _ _ _ _ from ?_)
  refine P_gw_op (L' := [.ref G, P_z v1]) (st' := [P_z v1, .ref S, .ref L, .ref G, P_z (100 + (10 * v1))]) P_i191_26 rfl (show P_gw _ _ 27 [.ref G, P_z v1] [P_z v1, .ref S, .ref L, .ref G, P_z (100 + (10 * v1))] _ _ _ _ _ _ _ from ?_)
  have hg2 := (hS.2.2.2 v1 (by omega) (by omega)).2
  refine P_gw_ald P_i191_27 (hS.2.1) (by omega) (by omega) (by omega) ((P_u2_ne (by omega)).trans ((hS.2.2.2 v1 (by omega) (by omega)).1)) (show P_gw _ _ 28 [.ref G, P_z v1] [P_z (sn v1), .ref L, .ref G, P_z (100 + (10 * v1))] _ _ _ _ _ _ _ from ?_)
  have hg3 := (hL.2.2 (sn v1) (by omega) (by omega)).2
  refine P_gw_ald P_i191_28 (hL.2.1) (by omega) (by omega) (by omega) ((P_u2_ne (by omega)).trans ((hL.2.2 (sn v1) (by omega) (by omega)).1)) (show P_gw _ _ 29 [.ref G, P_z v1] [P_z ((cT (sn v1) : Nat) : Int), .ref G, P_z (100 + (10 * v1))] _ _ _ _ _ _ _ from ?_)
  refine P_gw_call P_i191_29 rfl rfl (fun _ => rfl) rfl rfl rfl rfl (y2 := 182) (as := [.ref G, P_z ((cT (sn v1) : Nat) : Int)]) (r0 := [P_z (100 + (10 * v1))]) (P_ginv_v (hT.1.1) rfl rfl) (Nat.le_of_ble_eq_true rfl) (by decide) rfl (Nat.le_of_ble_eq_true rfl) (s_draw (hT.1.1) ((P_u2_ne (by omega)).trans (hs1)) (P_u2_at) (by omega) (by omega) (fun v4 hv4a hv4b => ?_))
  show P_gw _ _ 32 [.ref G, P_z v1] [P_z v4, P_z (100 + (10 * v1))] _ _ _ _ _ _ _
  refine P_gw_op (L' := [.ref G, P_z v1]) (st' := [P_z ((100 + (10 * v1)) + v4)]) P_i191_32 P_o_iadd (show P_gw _ _ 33 [.ref G, P_z v1] [P_z ((100 + (10 * v1)) + v4)] _ _ _ _ _ _ _ from ?_)
  refine P_gw_end P_i191_33 rfl rfl (fun _ => rfl) rfl ?_
  exact q _ _ _ (G_col_mk ⟨by omega, by omega⟩ (by omega) ⟨by omega, by omega⟩ (by omega)) (G_fr_tr (G_fr_f hT.1.1 rfl) (G_fr_f hT.1.1 rfl)) (by omega) P_u2_at
